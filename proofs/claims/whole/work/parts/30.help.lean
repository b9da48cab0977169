/-! the law's own methods: they call one method of the class, and catch -/
def CtH (l : Launch) (y : MethodName) (cc : ByteArray) (nL : Nat) (rt : Option FieldType) (hh : List (Nat × Nat × Nat × Nat)) (fr lo : Nat) (E : Ev) (As : List Value) (mm : Mem) (r : Int32) (mm' : Mem) : Prop := vx_Met l y (Cond.codeWith y cc nL rt hh :: BIG) { frames := fr, cells := 1, slots := 6, locals := lo } (va_Pc As (WB E mm)) (va_Qi (fun r' (_ : Unit) => r' = r) (fun _ t => PB E mm' t) (eA E)) (vx_X (fun (_ : Unit) => False) (fun _ _ _ => True) (eA E)) 1 6 (eA E)
def hcI (k : Nat) : Option Int32 := if k = 1 then some 1 else none
def hcN (k : Nat) : Option Int32 := if k = 0 then some 1 else none
def hcB (k : Nat) : Option Int32 := if k = 0 then some 1 else if k = 1 then some 2 else none
theorem hcI_n {k : Nat} {z : Int32} (h : hcI k = some z) : k = 1 ∧ z = 1 := by
  unfold hcI at h
  split at h
  · rename_i h1
    exact ⟨h1, (Option.some.inj h).symm⟩
  · cases h
theorem hcN_n {k : Nat} {z : Int32} (h : hcN k = some z) : k = 0 ∧ z = 1 := by
  unfold hcN at h
  split at h
  · rename_i h1
    exact ⟨h1, (Option.some.inj h).symm⟩
  · cases h
theorem hcB_n {k : Nat} {z : Int32} (h : hcB k = some z) : (k = 0 ∧ z = 1) ∨ (k = 1 ∧ z = 2) := by
  unfold hcB at h
  split at h
  · rename_i h1
    exact Or.inl ⟨h1, (Option.some.inj h).symm⟩
  · split at h
    · rename_i h1
      exact Or.inr ⟨h1, (Option.some.inj h).symm⟩
    · cases h
section AMH
variable {p : Program} {l : Launch} {e : Env} {R : Room} {s : State} {m : MethodId} {args : Array Value} {below : List Frame} {meth : Method} {c : Code} {H : Heap} {locs : List Loc} {cells slots : Nat} {Q : State → Prop}
variable {cc : ByteArray} {pc : Nat} {ls : Array Slot} {rest : List Value} {E : Ev} {own : String} {mm mm' : Mem}
theorem am_inH {y : MethodName} {nL : Nat} {rt : Option FieldType} {hh : List (Nat × Nat × Nat × Nat)} {rm : Room} {As : List Value} {s₁ : State} (B : BodyLoose p l y (headSpec (Cond.codeWith y cc nL rt hh :: BIG) rm) cc nL rt e s m args below meth c s₁) (hv : va_Pc As (WB E mm) args s) : args = As.toArray ∧ Cx p s m args c cc y.cls E ∧ wS E s mm s.heap [] ∧ meth.sig.returnType = rt ∧ meth.locks = false ∧ c.exceptionTable.toList = tableOf hh := by
  obtain ⟨h0, hP, hO, hV⟩ := hv
  have hts := atoms_spec (ws := Cond.codeWith y cc nL rt hh :: BIG) B.pre
  exact ⟨h0, ⟨B.exec, B.bytes, fun w h => hts w (List.mem_cons_of_mem _ h), findClass_of_methodNamed B.named, hV, hO⟩, ⟨hP, va_S.rf⟩, B.returns, B.notSynchronized, vx_table (x := y) B (hts _ List.mem_cons_self)⟩
theorem am_riG {v : Int32} {ty : FieldType} (X : Cx p s m args c cc own E) (hS : wS E s mm H locs) (hr : meth.sig.returnType = some ty) (hn : narrow ty (.int v) = .int v) (hdg : decode cc pc = .ok (.ireturn, 1)) (hlocks : meth.locks = false) : W p l e R s m args below meth c H locs cells slots (MQ below (va_Qi (fun r' (_ : Unit) => r' = v) (fun _ t => PB E mm t) (eA E)) args s cells slots (eA E)) (F0 m pc ls [.int v]) :=
  W.zret X.1 X.2.1 hr hn (fun _ ht _ => ⟨⟨v, (), rfl, rfl, am_pb X hS ht⟩, hS.2.F ht⟩) hS.2.2.2 hdg hlocks
theorem am_nw {w : Cond} (X : Cx p s m args c cc own E) (h : w ∈ NW) : w.before args s = true := nw_use (List.mem_filter.mp h).2 (X.2.2.2.2.1.2.2.1 _ h)
end AMH
theorem dL_college_0 : decode cL_college 0 = .ok (.aload_n 2, 1) := by decide +kernel
theorem dL_college_1 : decode cL_college 1 = .ok (.iconst 0, 1) := by decide +kernel
theorem dL_college_2 : decode cL_college 2 = .ok (.aload_n 0, 1) := by decide +kernel
theorem dL_college_3 : decode cL_college 3 = .ok (.iload_n 1, 1) := by decide +kernel
theorem dL_college_4 : decode cL_college 4 = .ok (.invokevirtual 7, 3) := by decide +kernel
theorem dL_college_7 : decode cL_college 7 = .ok (.i2l, 1) := by decide +kernel
theorem dL_college_8 : decode cL_college 8 = .ok (.lastore, 1) := by decide +kernel
theorem dL_college_9 : decode cL_college 9 = .ok (.goto 6, 3) := by decide +kernel
theorem dL_college_12 : decode cL_college 12 = .ok (.astore_n 3, 1) := by decide +kernel
theorem dL_college_13 : decode cL_college 13 = .ok (.iconst 1, 1) := by decide +kernel
theorem dL_college_14 : decode cL_college 14 = .ok (.ireturn, 1) := by decide +kernel
theorem dL_college_15 : decode cL_college 15 = .ok (.iconst 0, 1) := by decide +kernel
theorem dL_college_16 : decode cL_college 16 = .ok (.ireturn, 1) := by decide +kernel
theorem dL_law_0 : decode cL_law 0 = .ok (.aload_n 2, 1) := by decide +kernel
theorem dL_law_1 : decode cL_law 1 = .ok (.iconst 0, 1) := by decide +kernel
theorem dL_law_2 : decode cL_law 2 = .ok (.aload_n 0, 1) := by decide +kernel
theorem dL_law_3 : decode cL_law 3 = .ok (.iload_n 1, 1) := by decide +kernel
theorem dL_law_4 : decode cL_law 4 = .ok (.invokevirtual 15, 3) := by decide +kernel
theorem dL_law_7 : decode cL_law 7 = .ok (.i2l, 1) := by decide +kernel
theorem dL_law_8 : decode cL_law 8 = .ok (.lastore, 1) := by decide +kernel
theorem dL_law_9 : decode cL_law 9 = .ok (.goto 6, 3) := by decide +kernel
theorem dL_law_12 : decode cL_law 12 = .ok (.astore_n 3, 1) := by decide +kernel
theorem dL_law_13 : decode cL_law 13 = .ok (.iconst 1, 1) := by decide +kernel
theorem dL_law_14 : decode cL_law 14 = .ok (.ireturn, 1) := by decide +kernel
theorem dL_law_15 : decode cL_law 15 = .ok (.iconst 0, 1) := by decide +kernel
theorem dL_law_16 : decode cL_law 16 = .ok (.ireturn, 1) := by decide +kernel
theorem dL_work_0 : decode cL_work 0 = .ok (.aload_n 2, 1) := by decide +kernel
theorem dL_work_1 : decode cL_work 1 = .ok (.iconst 0, 1) := by decide +kernel
theorem dL_work_2 : decode cL_work 2 = .ok (.aload_n 0, 1) := by decide +kernel
theorem dL_work_3 : decode cL_work 3 = .ok (.iload_n 1, 1) := by decide +kernel
theorem dL_work_4 : decode cL_work 4 = .ok (.invokevirtual 18, 3) := by decide +kernel
theorem dL_work_7 : decode cL_work 7 = .ok (.i2l, 1) := by decide +kernel
theorem dL_work_8 : decode cL_work 8 = .ok (.lastore, 1) := by decide +kernel
theorem dL_work_9 : decode cL_work 9 = .ok (.goto 6, 3) := by decide +kernel
theorem dL_work_12 : decode cL_work 12 = .ok (.astore_n 3, 1) := by decide +kernel
theorem dL_work_13 : decode cL_work 13 = .ok (.iconst 1, 1) := by decide +kernel
theorem dL_work_14 : decode cL_work 14 = .ok (.ireturn, 1) := by decide +kernel
theorem dL_work_15 : decode cL_work 15 = .ok (.iconst 0, 1) := by decide +kernel
theorem dL_work_16 : decode cL_work 16 = .ok (.ireturn, 1) := by decide +kernel
theorem dL_book_0 : decode cL_book 0 = .ok (.aload_n 2, 1) := by decide +kernel
theorem dL_book_1 : decode cL_book 1 = .ok (.iconst 0, 1) := by decide +kernel
theorem dL_book_2 : decode cL_book 2 = .ok (.aload_n 0, 1) := by decide +kernel
theorem dL_book_3 : decode cL_book 3 = .ok (.iload_n 1, 1) := by decide +kernel
theorem dL_book_4 : decode cL_book 4 = .ok (.invokevirtual 21, 3) := by decide +kernel
theorem dL_book_7 : decode cL_book 7 = .ok (.i2l, 1) := by decide +kernel
theorem dL_book_8 : decode cL_book 8 = .ok (.lastore, 1) := by decide +kernel
theorem dL_book_9 : decode cL_book 9 = .ok (.goto 6, 3) := by decide +kernel
theorem dL_book_12 : decode cL_book 12 = .ok (.astore_n 3, 1) := by decide +kernel
theorem dL_book_13 : decode cL_book 13 = .ok (.iconst 1, 1) := by decide +kernel
theorem dL_book_14 : decode cL_book 14 = .ok (.ireturn, 1) := by decide +kernel
theorem dL_book_15 : decode cL_book 15 = .ok (.iconst 0, 1) := by decide +kernel
theorem dL_book_16 : decode cL_book 16 = .ok (.ireturn, 1) := by decide +kernel
theorem dL_told_0 : decode cL_told 0 = .ok (.aload_n 2, 1) := by decide +kernel
theorem dL_told_1 : decode cL_told 1 = .ok (.iconst 0, 1) := by decide +kernel
theorem dL_told_2 : decode cL_told 2 = .ok (.aload_n 0, 1) := by decide +kernel
theorem dL_told_3 : decode cL_told 3 = .ok (.iload_n 1, 1) := by decide +kernel
theorem dL_told_4 : decode cL_told 4 = .ok (.invokevirtual 24, 3) := by decide +kernel
theorem dL_told_7 : decode cL_told 7 = .ok (.i2l, 1) := by decide +kernel
theorem dL_told_8 : decode cL_told 8 = .ok (.lastore, 1) := by decide +kernel
theorem dL_told_9 : decode cL_told 9 = .ok (.goto 6, 3) := by decide +kernel
theorem dL_told_12 : decode cL_told 12 = .ok (.astore_n 3, 1) := by decide +kernel
theorem dL_told_13 : decode cL_told 13 = .ok (.iconst 1, 1) := by decide +kernel
theorem dL_told_14 : decode cL_told 14 = .ok (.ireturn, 1) := by decide +kernel
theorem dL_told_15 : decode cL_told 15 = .ok (.iconst 0, 1) := by decide +kernel
theorem dL_told_16 : decode cL_told 16 = .ok (.ireturn, 1) := by decide +kernel
theorem dL_fellow_0 : decode cL_fellow 0 = .ok (.aload_n 3, 1) := by decide +kernel
theorem dL_fellow_1 : decode cL_fellow 1 = .ok (.iconst 0, 1) := by decide +kernel
theorem dL_fellow_2 : decode cL_fellow 2 = .ok (.aload_n 0, 1) := by decide +kernel
theorem dL_fellow_3 : decode cL_fellow 3 = .ok (.iload_n 1, 1) := by decide +kernel
theorem dL_fellow_4 : decode cL_fellow 4 = .ok (.iload_n 2, 1) := by decide +kernel
theorem dL_fellow_5 : decode cL_fellow 5 = .ok (.invokevirtual 27, 3) := by decide +kernel
theorem dL_fellow_8 : decode cL_fellow 8 = .ok (.i2l, 1) := by decide +kernel
theorem dL_fellow_9 : decode cL_fellow 9 = .ok (.lastore, 1) := by decide +kernel
theorem dL_fellow_10 : decode cL_fellow 10 = .ok (.goto 11, 3) := by decide +kernel
theorem dL_fellow_13 : decode cL_fellow 13 = .ok (.astore 4, 2) := by decide +kernel
theorem dL_fellow_15 : decode cL_fellow 15 = .ok (.iconst 1, 1) := by decide +kernel
theorem dL_fellow_16 : decode cL_fellow 16 = .ok (.ireturn, 1) := by decide +kernel
theorem dL_fellow_17 : decode cL_fellow 17 = .ok (.astore 4, 2) := by decide +kernel
theorem dL_fellow_19 : decode cL_fellow 19 = .ok (.iconst 2, 1) := by decide +kernel
theorem dL_fellow_20 : decode cL_fellow 20 = .ok (.ireturn, 1) := by decide +kernel
theorem dL_fellow_21 : decode cL_fellow 21 = .ok (.iconst 0, 1) := by decide +kernel
theorem dL_fellow_22 : decode cL_fellow 22 = .ok (.ireturn, 1) := by decide +kernel
theorem dL_part_0 : decode cL_part 0 = .ok (.aload 4, 2) := by decide +kernel
theorem dL_part_2 : decode cL_part 2 = .ok (.iconst 0, 1) := by decide +kernel
theorem dL_part_3 : decode cL_part 3 = .ok (.aload_n 0, 1) := by decide +kernel
theorem dL_part_4 : decode cL_part 4 = .ok (.iload_n 1, 1) := by decide +kernel
theorem dL_part_5 : decode cL_part 5 = .ok (.iload_n 2, 1) := by decide +kernel
theorem dL_part_6 : decode cL_part 6 = .ok (.iload_n 3, 1) := by decide +kernel
theorem dL_part_7 : decode cL_part 7 = .ok (.invokevirtual 33, 3) := by decide +kernel
theorem dL_part_10 : decode cL_part 10 = .ok (.i2l, 1) := by decide +kernel
theorem dL_part_11 : decode cL_part 11 = .ok (.lastore, 1) := by decide +kernel
theorem dL_part_12 : decode cL_part 12 = .ok (.goto 11, 3) := by decide +kernel
theorem dL_part_15 : decode cL_part 15 = .ok (.astore 5, 2) := by decide +kernel
theorem dL_part_17 : decode cL_part 17 = .ok (.iconst 1, 1) := by decide +kernel
theorem dL_part_18 : decode cL_part 18 = .ok (.ireturn, 1) := by decide +kernel
theorem dL_part_19 : decode cL_part 19 = .ok (.astore 5, 2) := by decide +kernel
theorem dL_part_21 : decode cL_part 21 = .ok (.iconst 2, 1) := by decide +kernel
theorem dL_part_22 : decode cL_part 22 = .ok (.ireturn, 1) := by decide +kernel
theorem dL_part_23 : decode cL_part 23 = .ok (.iconst 0, 1) := by decide +kernel
theorem dL_part_24 : decode cL_part 24 = .ok (.ireturn, 1) := by decide +kernel
theorem dL_glass_0 : decode cL_glass 0 = .ok (.aload_n 3, 1) := by decide +kernel
theorem dL_glass_1 : decode cL_glass 1 = .ok (.iconst 0, 1) := by decide +kernel
theorem dL_glass_2 : decode cL_glass 2 = .ok (.aload_n 0, 1) := by decide +kernel
theorem dL_glass_3 : decode cL_glass 3 = .ok (.iload_n 1, 1) := by decide +kernel
theorem dL_glass_4 : decode cL_glass 4 = .ok (.iload_n 2, 1) := by decide +kernel
theorem dL_glass_5 : decode cL_glass 5 = .ok (.invokevirtual 37, 3) := by decide +kernel
theorem dL_glass_8 : decode cL_glass 8 = .ok (.i2l, 1) := by decide +kernel
theorem dL_glass_9 : decode cL_glass 9 = .ok (.lastore, 1) := by decide +kernel
theorem dL_glass_10 : decode cL_glass 10 = .ok (.goto 11, 3) := by decide +kernel
theorem dL_glass_13 : decode cL_glass 13 = .ok (.astore 4, 2) := by decide +kernel
theorem dL_glass_15 : decode cL_glass 15 = .ok (.iconst 1, 1) := by decide +kernel
theorem dL_glass_16 : decode cL_glass 16 = .ok (.ireturn, 1) := by decide +kernel
theorem dL_glass_17 : decode cL_glass 17 = .ok (.astore 4, 2) := by decide +kernel
theorem dL_glass_19 : decode cL_glass 19 = .ok (.iconst 2, 1) := by decide +kernel
theorem dL_glass_20 : decode cL_glass 20 = .ok (.ireturn, 1) := by decide +kernel
theorem dL_glass_21 : decode cL_glass 21 = .ok (.iconst 0, 1) := by decide +kernel
theorem dL_glass_22 : decode cL_glass 22 = .ok (.ireturn, 1) := by decide +kernel
theorem dL_place_0 : decode cL_place 0 = .ok (.aload_n 2, 1) := by decide +kernel
theorem dL_place_1 : decode cL_place 1 = .ok (.iconst 0, 1) := by decide +kernel
theorem dL_place_2 : decode cL_place 2 = .ok (.aload_n 0, 1) := by decide +kernel
theorem dL_place_3 : decode cL_place 3 = .ok (.iload_n 1, 1) := by decide +kernel
theorem dL_place_4 : decode cL_place 4 = .ok (.invokevirtual 40, 3) := by decide +kernel
theorem dL_place_7 : decode cL_place 7 = .ok (.i2l, 1) := by decide +kernel
theorem dL_place_8 : decode cL_place 8 = .ok (.lastore, 1) := by decide +kernel
theorem dL_place_9 : decode cL_place 9 = .ok (.goto 6, 3) := by decide +kernel
theorem dL_place_12 : decode cL_place 12 = .ok (.astore_n 3, 1) := by decide +kernel
theorem dL_place_13 : decode cL_place 13 = .ok (.iconst 1, 1) := by decide +kernel
theorem dL_place_14 : decode cL_place 14 = .ok (.ireturn, 1) := by decide +kernel
theorem dL_place_15 : decode cL_place 15 = .ok (.iconst 0, 1) := by decide +kernel
theorem dL_place_16 : decode cL_place 16 = .ok (.ireturn, 1) := by decide +kernel
theorem dL_turn_0 : decode cL_turn 0 = .ok (.aload 4, 2) := by decide +kernel
theorem dL_turn_2 : decode cL_turn 2 = .ok (.iconst 0, 1) := by decide +kernel
theorem dL_turn_3 : decode cL_turn 3 = .ok (.aload_n 0, 1) := by decide +kernel
theorem dL_turn_4 : decode cL_turn 4 = .ok (.iload_n 1, 1) := by decide +kernel
theorem dL_turn_5 : decode cL_turn 5 = .ok (.iload_n 2, 1) := by decide +kernel
theorem dL_turn_6 : decode cL_turn 6 = .ok (.iload_n 3, 1) := by decide +kernel
theorem dL_turn_7 : decode cL_turn 7 = .ok (.invokevirtual 43, 3) := by decide +kernel
theorem dL_turn_10 : decode cL_turn 10 = .ok (.i2l, 1) := by decide +kernel
theorem dL_turn_11 : decode cL_turn 11 = .ok (.lastore, 1) := by decide +kernel
theorem dL_turn_12 : decode cL_turn 12 = .ok (.goto 11, 3) := by decide +kernel
theorem dL_turn_15 : decode cL_turn 15 = .ok (.astore 5, 2) := by decide +kernel
theorem dL_turn_17 : decode cL_turn 17 = .ok (.iconst 1, 1) := by decide +kernel
theorem dL_turn_18 : decode cL_turn 18 = .ok (.ireturn, 1) := by decide +kernel
theorem dL_turn_19 : decode cL_turn 19 = .ok (.astore 5, 2) := by decide +kernel
theorem dL_turn_21 : decode cL_turn 21 = .ok (.iconst 2, 1) := by decide +kernel
theorem dL_turn_22 : decode cL_turn 22 = .ok (.ireturn, 1) := by decide +kernel
theorem dL_turn_23 : decode cL_turn 23 = .ok (.iconst 0, 1) := by decide +kernel
theorem dL_turn_24 : decode cL_turn 24 = .ok (.ireturn, 1) := by decide +kernel
theorem dL_would_0 : decode cL_would 0 = .ok (.aload 9, 2) := by decide +kernel
theorem dL_would_2 : decode cL_would 2 = .ok (.iconst 0, 1) := by decide +kernel
theorem dL_would_3 : decode cL_would 3 = .ok (.aload_n 0, 1) := by decide +kernel
theorem dL_would_4 : decode cL_would 4 = .ok (.iload_n 1, 1) := by decide +kernel
theorem dL_would_5 : decode cL_would 5 = .ok (.iload_n 2, 1) := by decide +kernel
theorem dL_would_6 : decode cL_would 6 = .ok (.iload_n 3, 1) := by decide +kernel
theorem dL_would_7 : decode cL_would 7 = .ok (.iload 4, 2) := by decide +kernel
theorem dL_would_9 : decode cL_would 9 = .ok (.iload 5, 2) := by decide +kernel
theorem dL_would_11 : decode cL_would 11 = .ok (.iload 6, 2) := by decide +kernel
theorem dL_would_13 : decode cL_would 13 = .ok (.iload 7, 2) := by decide +kernel
theorem dL_would_15 : decode cL_would 15 = .ok (.iload 8, 2) := by decide +kernel
theorem dL_would_17 : decode cL_would 17 = .ok (.invokevirtual 46, 3) := by decide +kernel
theorem dL_would_20 : decode cL_would 20 = .ok (.i2l, 1) := by decide +kernel
theorem dL_would_21 : decode cL_would 21 = .ok (.lastore, 1) := by decide +kernel
theorem dL_would_22 : decode cL_would 22 = .ok (.goto 7, 3) := by decide +kernel
theorem dL_would_25 : decode cL_would 25 = .ok (.astore 10, 2) := by decide +kernel
theorem dL_would_27 : decode cL_would 27 = .ok (.iconst 1, 1) := by decide +kernel
theorem dL_would_28 : decode cL_would 28 = .ok (.ireturn, 1) := by decide +kernel
theorem dL_would_29 : decode cL_would 29 = .ok (.iconst 0, 1) := by decide +kernel
theorem dL_would_30 : decode cL_would 30 = .ok (.ireturn, 1) := by decide +kernel
theorem dL_ahead_0 : decode cL_ahead 0 = .ok (.aload_n 3, 1) := by decide +kernel
theorem dL_ahead_1 : decode cL_ahead 1 = .ok (.iconst 0, 1) := by decide +kernel
theorem dL_ahead_2 : decode cL_ahead 2 = .ok (.aload_n 0, 1) := by decide +kernel
theorem dL_ahead_3 : decode cL_ahead 3 = .ok (.iload_n 1, 1) := by decide +kernel
theorem dL_ahead_4 : decode cL_ahead 4 = .ok (.iload_n 2, 1) := by decide +kernel
theorem dL_ahead_5 : decode cL_ahead 5 = .ok (.invokevirtual 50, 3) := by decide +kernel
theorem dL_ahead_8 : decode cL_ahead 8 = .ok (.i2l, 1) := by decide +kernel
theorem dL_ahead_9 : decode cL_ahead 9 = .ok (.lastore, 1) := by decide +kernel
theorem dL_ahead_10 : decode cL_ahead 10 = .ok (.goto 7, 3) := by decide +kernel
theorem dL_ahead_13 : decode cL_ahead 13 = .ok (.astore 4, 2) := by decide +kernel
theorem dL_ahead_15 : decode cL_ahead 15 = .ok (.iconst 1, 1) := by decide +kernel
theorem dL_ahead_16 : decode cL_ahead 16 = .ok (.ireturn, 1) := by decide +kernel
theorem dL_ahead_17 : decode cL_ahead 17 = .ok (.iconst 0, 1) := by decide +kernel
theorem dL_ahead_18 : decode cL_ahead 18 = .ok (.ireturn, 1) := by decide +kernel
theorem dL_spread_0 : decode cL_spread 0 = .ok (.aload_n 2, 1) := by decide +kernel
theorem dL_spread_1 : decode cL_spread 1 = .ok (.iconst 0, 1) := by decide +kernel
theorem dL_spread_2 : decode cL_spread 2 = .ok (.aload_n 0, 1) := by decide +kernel
theorem dL_spread_3 : decode cL_spread 3 = .ok (.iload_n 1, 1) := by decide +kernel
theorem dL_spread_4 : decode cL_spread 4 = .ok (.invokevirtual 53, 3) := by decide +kernel
theorem dL_spread_7 : decode cL_spread 7 = .ok (.i2l, 1) := by decide +kernel
theorem dL_spread_8 : decode cL_spread 8 = .ok (.lastore, 1) := by decide +kernel
theorem dL_spread_9 : decode cL_spread 9 = .ok (.goto 6, 3) := by decide +kernel
theorem dL_spread_12 : decode cL_spread 12 = .ok (.astore_n 3, 1) := by decide +kernel
theorem dL_spread_13 : decode cL_spread 13 = .ok (.iconst 1, 1) := by decide +kernel
theorem dL_spread_14 : decode cL_spread 14 = .ok (.ireturn, 1) := by decide +kernel
theorem dL_spread_15 : decode cL_spread 15 = .ok (.iconst 0, 1) := by decide +kernel
theorem dL_spread_16 : decode cL_spread 16 = .ok (.ireturn, 1) := by decide +kernel
theorem dL_bow_0 : decode cL_bow 0 = .ok (.aload_n 2, 1) := by decide +kernel
theorem dL_bow_1 : decode cL_bow 1 = .ok (.iconst 0, 1) := by decide +kernel
theorem dL_bow_2 : decode cL_bow 2 = .ok (.aload_n 0, 1) := by decide +kernel
theorem dL_bow_3 : decode cL_bow 3 = .ok (.iload_n 1, 1) := by decide +kernel
theorem dL_bow_4 : decode cL_bow 4 = .ok (.invokevirtual 56, 3) := by decide +kernel
theorem dL_bow_7 : decode cL_bow 7 = .ok (.i2l, 1) := by decide +kernel
theorem dL_bow_8 : decode cL_bow 8 = .ok (.lastore, 1) := by decide +kernel
theorem dL_bow_9 : decode cL_bow 9 = .ok (.goto 6, 3) := by decide +kernel
theorem dL_bow_12 : decode cL_bow 12 = .ok (.astore_n 3, 1) := by decide +kernel
theorem dL_bow_13 : decode cL_bow 13 = .ok (.iconst 1, 1) := by decide +kernel
theorem dL_bow_14 : decode cL_bow 14 = .ok (.ireturn, 1) := by decide +kernel
theorem dL_bow_15 : decode cL_bow 15 = .ok (.iconst 0, 1) := by decide +kernel
theorem dL_bow_16 : decode cL_bow 16 = .ok (.ireturn, 1) := by decide +kernel
theorem dL_through_0 : decode cL_through 0 = .ok (.aload 4, 2) := by decide +kernel
theorem dL_through_2 : decode cL_through 2 = .ok (.iconst 0, 1) := by decide +kernel
theorem dL_through_3 : decode cL_through 3 = .ok (.aload_n 0, 1) := by decide +kernel
theorem dL_through_4 : decode cL_through 4 = .ok (.iload_n 1, 1) := by decide +kernel
theorem dL_through_5 : decode cL_through 5 = .ok (.iload_n 2, 1) := by decide +kernel
theorem dL_through_6 : decode cL_through 6 = .ok (.iload_n 3, 1) := by decide +kernel
theorem dL_through_7 : decode cL_through 7 = .ok (.invokevirtual 59, 3) := by decide +kernel
theorem dL_through_10 : decode cL_through 10 = .ok (.i2l, 1) := by decide +kernel
theorem dL_through_11 : decode cL_through 11 = .ok (.lastore, 1) := by decide +kernel
theorem dL_through_12 : decode cL_through 12 = .ok (.goto 11, 3) := by decide +kernel
theorem dL_through_15 : decode cL_through 15 = .ok (.astore 5, 2) := by decide +kernel
theorem dL_through_17 : decode cL_through 17 = .ok (.iconst 1, 1) := by decide +kernel
theorem dL_through_18 : decode cL_through 18 = .ok (.ireturn, 1) := by decide +kernel
theorem dL_through_19 : decode cL_through 19 = .ok (.astore 5, 2) := by decide +kernel
theorem dL_through_21 : decode cL_through 21 = .ok (.iconst 2, 1) := by decide +kernel
theorem dL_through_22 : decode cL_through 22 = .ok (.ireturn, 1) := by decide +kernel
theorem dL_through_23 : decode cL_through 23 = .ok (.iconst 0, 1) := by decide +kernel
theorem dL_through_24 : decode cL_through 24 = .ok (.ireturn, 1) := by decide +kernel
theorem dL_serves_0 : decode cL_serves 0 = .ok (.aload_n 3, 1) := by decide +kernel
theorem dL_serves_1 : decode cL_serves 1 = .ok (.iconst 0, 1) := by decide +kernel
theorem dL_serves_2 : decode cL_serves 2 = .ok (.aload_n 0, 1) := by decide +kernel
theorem dL_serves_3 : decode cL_serves 3 = .ok (.iload_n 1, 1) := by decide +kernel
theorem dL_serves_4 : decode cL_serves 4 = .ok (.iload_n 2, 1) := by decide +kernel
theorem dL_serves_5 : decode cL_serves 5 = .ok (.invokevirtual 62, 3) := by decide +kernel
theorem dL_serves_8 : decode cL_serves 8 = .ok (.i2l, 1) := by decide +kernel
theorem dL_serves_9 : decode cL_serves 9 = .ok (.lastore, 1) := by decide +kernel
theorem dL_serves_10 : decode cL_serves 10 = .ok (.goto 7, 3) := by decide +kernel
theorem dL_serves_13 : decode cL_serves 13 = .ok (.astore 4, 2) := by decide +kernel
theorem dL_serves_15 : decode cL_serves 15 = .ok (.iconst 1, 1) := by decide +kernel
theorem dL_serves_16 : decode cL_serves 16 = .ok (.ireturn, 1) := by decide +kernel
theorem dL_serves_17 : decode cL_serves 17 = .ok (.iconst 0, 1) := by decide +kernel
theorem dL_serves_18 : decode cL_serves 18 = .ok (.ireturn, 1) := by decide +kernel
theorem dL_fits_0 : decode cL_fits 0 = .ok (.aload_n 2, 1) := by decide +kernel
theorem dL_fits_1 : decode cL_fits 1 = .ok (.iconst 0, 1) := by decide +kernel
theorem dL_fits_2 : decode cL_fits 2 = .ok (.aload_n 0, 1) := by decide +kernel
theorem dL_fits_3 : decode cL_fits 3 = .ok (.iload_n 1, 1) := by decide +kernel
theorem dL_fits_4 : decode cL_fits 4 = .ok (.invokevirtual 65, 3) := by decide +kernel
theorem dL_fits_7 : decode cL_fits 7 = .ok (.i2l, 1) := by decide +kernel
theorem dL_fits_8 : decode cL_fits 8 = .ok (.lastore, 1) := by decide +kernel
theorem dL_fits_9 : decode cL_fits 9 = .ok (.goto 6, 3) := by decide +kernel
theorem dL_fits_12 : decode cL_fits 12 = .ok (.astore_n 3, 1) := by decide +kernel
theorem dL_fits_13 : decode cL_fits 13 = .ok (.iconst 1, 1) := by decide +kernel
theorem dL_fits_14 : decode cL_fits 14 = .ok (.ireturn, 1) := by decide +kernel
theorem dL_fits_15 : decode cL_fits 15 = .ok (.iconst 0, 1) := by decide +kernel
theorem dL_fits_16 : decode cL_fits 16 = .ok (.ireturn, 1) := by decide +kernel
theorem dL_look_0 : decode cL_look 0 = .ok (.aload_n 2, 1) := by decide +kernel
theorem dL_look_1 : decode cL_look 1 = .ok (.iconst 0, 1) := by decide +kernel
theorem dL_look_2 : decode cL_look 2 = .ok (.aload_n 0, 1) := by decide +kernel
theorem dL_look_3 : decode cL_look 3 = .ok (.iload_n 1, 1) := by decide +kernel
theorem dL_look_4 : decode cL_look 4 = .ok (.invokevirtual 68, 3) := by decide +kernel
theorem dL_look_7 : decode cL_look 7 = .ok (.i2l, 1) := by decide +kernel
theorem dL_look_8 : decode cL_look 8 = .ok (.lastore, 1) := by decide +kernel
theorem dL_look_9 : decode cL_look 9 = .ok (.goto 6, 3) := by decide +kernel
theorem dL_look_12 : decode cL_look 12 = .ok (.astore_n 3, 1) := by decide +kernel
theorem dL_look_13 : decode cL_look 13 = .ok (.iconst 1, 1) := by decide +kernel
theorem dL_look_14 : decode cL_look 14 = .ok (.ireturn, 1) := by decide +kernel
theorem dL_look_15 : decode cL_look 15 = .ok (.iconst 0, 1) := by decide +kernel
theorem dL_look_16 : decode cL_look 16 = .ok (.ireturn, 1) := by decide +kernel
theorem dL_swings_0 : decode cL_swings 0 = .ok (.aload 4, 2) := by decide +kernel
theorem dL_swings_2 : decode cL_swings 2 = .ok (.iconst 0, 1) := by decide +kernel
theorem dL_swings_3 : decode cL_swings 3 = .ok (.aload_n 0, 1) := by decide +kernel
theorem dL_swings_4 : decode cL_swings 4 = .ok (.iload_n 1, 1) := by decide +kernel
theorem dL_swings_5 : decode cL_swings 5 = .ok (.iload_n 2, 1) := by decide +kernel
theorem dL_swings_6 : decode cL_swings 6 = .ok (.iload_n 3, 1) := by decide +kernel
theorem dL_swings_7 : decode cL_swings 7 = .ok (.invokevirtual 71, 3) := by decide +kernel
theorem dL_swings_10 : decode cL_swings 10 = .ok (.i2l, 1) := by decide +kernel
theorem dL_swings_11 : decode cL_swings 11 = .ok (.lastore, 1) := by decide +kernel
theorem dL_swings_12 : decode cL_swings 12 = .ok (.goto 11, 3) := by decide +kernel
theorem dL_swings_15 : decode cL_swings 15 = .ok (.astore 5, 2) := by decide +kernel
theorem dL_swings_17 : decode cL_swings 17 = .ok (.iconst 1, 1) := by decide +kernel
theorem dL_swings_18 : decode cL_swings 18 = .ok (.ireturn, 1) := by decide +kernel
theorem dL_swings_19 : decode cL_swings 19 = .ok (.astore 5, 2) := by decide +kernel
theorem dL_swings_21 : decode cL_swings 21 = .ok (.iconst 2, 1) := by decide +kernel
theorem dL_swings_22 : decode cL_swings 22 = .ok (.ireturn, 1) := by decide +kernel
theorem dL_swings_23 : decode cL_swings 23 = .ok (.iconst 0, 1) := by decide +kernel
theorem dL_swings_24 : decode cL_swings 24 = .ok (.ireturn, 1) := by decide +kernel
theorem dL_power_0 : decode cL_power 0 = .ok (.aload 5, 2) := by decide +kernel
theorem dL_power_2 : decode cL_power 2 = .ok (.iconst 0, 1) := by decide +kernel
theorem dL_power_3 : decode cL_power 3 = .ok (.aload_n 0, 1) := by decide +kernel
theorem dL_power_4 : decode cL_power 4 = .ok (.iload_n 1, 1) := by decide +kernel
theorem dL_power_5 : decode cL_power 5 = .ok (.iload_n 2, 1) := by decide +kernel
theorem dL_power_6 : decode cL_power 6 = .ok (.iload_n 3, 1) := by decide +kernel
theorem dL_power_7 : decode cL_power 7 = .ok (.iload 4, 2) := by decide +kernel
theorem dL_power_9 : decode cL_power 9 = .ok (.invokevirtual 74, 3) := by decide +kernel
theorem dL_power_12 : decode cL_power 12 = .ok (.i2l, 1) := by decide +kernel
theorem dL_power_13 : decode cL_power 13 = .ok (.lastore, 1) := by decide +kernel
theorem dL_power_14 : decode cL_power 14 = .ok (.goto 11, 3) := by decide +kernel
theorem dL_power_17 : decode cL_power 17 = .ok (.astore 6, 2) := by decide +kernel
theorem dL_power_19 : decode cL_power 19 = .ok (.iconst 1, 1) := by decide +kernel
theorem dL_power_20 : decode cL_power 20 = .ok (.ireturn, 1) := by decide +kernel
theorem dL_power_21 : decode cL_power 21 = .ok (.astore 6, 2) := by decide +kernel
theorem dL_power_23 : decode cL_power 23 = .ok (.iconst 2, 1) := by decide +kernel
theorem dL_power_24 : decode cL_power 24 = .ok (.ireturn, 1) := by decide +kernel
theorem dL_power_25 : decode cL_power 25 = .ok (.iconst 0, 1) := by decide +kernel
theorem dL_power_26 : decode cL_power 26 = .ok (.ireturn, 1) := by decide +kernel
theorem dL_green_0 : decode cL_green 0 = .ok (.aload 4, 2) := by decide +kernel
theorem dL_green_2 : decode cL_green 2 = .ok (.iconst 0, 1) := by decide +kernel
theorem dL_green_3 : decode cL_green 3 = .ok (.aload_n 0, 1) := by decide +kernel
theorem dL_green_4 : decode cL_green 4 = .ok (.iload_n 1, 1) := by decide +kernel
theorem dL_green_5 : decode cL_green 5 = .ok (.iload_n 2, 1) := by decide +kernel
theorem dL_green_6 : decode cL_green 6 = .ok (.iload_n 3, 1) := by decide +kernel
theorem dL_green_7 : decode cL_green 7 = .ok (.invokevirtual 78, 3) := by decide +kernel
theorem dL_green_10 : decode cL_green 10 = .ok (.lastore, 1) := by decide +kernel
theorem dL_green_11 : decode cL_green 11 = .ok (.goto 7, 3) := by decide +kernel
theorem dL_green_14 : decode cL_green 14 = .ok (.astore 5, 2) := by decide +kernel
theorem dL_green_16 : decode cL_green 16 = .ok (.iconst 1, 1) := by decide +kernel
theorem dL_green_17 : decode cL_green 17 = .ok (.ireturn, 1) := by decide +kernel
theorem dL_green_18 : decode cL_green 18 = .ok (.iconst 0, 1) := by decide +kernel
theorem dL_green_19 : decode cL_green 19 = .ok (.ireturn, 1) := by decide +kernel
theorem dL_lookers_0 : decode cL_lookers 0 = .ok (.aload 4, 2) := by decide +kernel
theorem dL_lookers_2 : decode cL_lookers 2 = .ok (.iconst 0, 1) := by decide +kernel
theorem dL_lookers_3 : decode cL_lookers 3 = .ok (.aload_n 0, 1) := by decide +kernel
theorem dL_lookers_4 : decode cL_lookers 4 = .ok (.iload_n 1, 1) := by decide +kernel
theorem dL_lookers_5 : decode cL_lookers 5 = .ok (.iload_n 2, 1) := by decide +kernel
theorem dL_lookers_6 : decode cL_lookers 6 = .ok (.iload_n 3, 1) := by decide +kernel
theorem dL_lookers_7 : decode cL_lookers 7 = .ok (.invokevirtual 82, 3) := by decide +kernel
theorem dL_lookers_10 : decode cL_lookers 10 = .ok (.i2l, 1) := by decide +kernel
theorem dL_lookers_11 : decode cL_lookers 11 = .ok (.lastore, 1) := by decide +kernel
theorem dL_lookers_12 : decode cL_lookers 12 = .ok (.goto 7, 3) := by decide +kernel
theorem dL_lookers_15 : decode cL_lookers 15 = .ok (.astore 5, 2) := by decide +kernel
theorem dL_lookers_17 : decode cL_lookers 17 = .ok (.iconst 1, 1) := by decide +kernel
theorem dL_lookers_18 : decode cL_lookers 18 = .ok (.ireturn, 1) := by decide +kernel
theorem dL_lookers_19 : decode cL_lookers 19 = .ok (.iconst 0, 1) := by decide +kernel
theorem dL_lookers_20 : decode cL_lookers 20 = .ok (.ireturn, 1) := by decide +kernel
theorem dL_light_0 : decode cL_light 0 = .ok (.aload 4, 2) := by decide +kernel
theorem dL_light_2 : decode cL_light 2 = .ok (.iconst 0, 1) := by decide +kernel
theorem dL_light_3 : decode cL_light 3 = .ok (.aload_n 0, 1) := by decide +kernel
theorem dL_light_4 : decode cL_light 4 = .ok (.iload_n 1, 1) := by decide +kernel
theorem dL_light_5 : decode cL_light 5 = .ok (.iload_n 2, 1) := by decide +kernel
theorem dL_light_6 : decode cL_light 6 = .ok (.iload_n 3, 1) := by decide +kernel
theorem dL_light_7 : decode cL_light 7 = .ok (.invokevirtual 85, 3) := by decide +kernel
theorem dL_light_10 : decode cL_light 10 = .ok (.i2l, 1) := by decide +kernel
theorem dL_light_11 : decode cL_light 11 = .ok (.lastore, 1) := by decide +kernel
theorem dL_light_12 : decode cL_light 12 = .ok (.goto 11, 3) := by decide +kernel
theorem dL_light_15 : decode cL_light 15 = .ok (.astore 5, 2) := by decide +kernel
theorem dL_light_17 : decode cL_light 17 = .ok (.iconst 1, 1) := by decide +kernel
theorem dL_light_18 : decode cL_light 18 = .ok (.ireturn, 1) := by decide +kernel
theorem dL_light_19 : decode cL_light 19 = .ok (.astore 5, 2) := by decide +kernel
theorem dL_light_21 : decode cL_light 21 = .ok (.iconst 2, 1) := by decide +kernel
theorem dL_light_22 : decode cL_light 22 = .ok (.ireturn, 1) := by decide +kernel
theorem dL_light_23 : decode cL_light 23 = .ok (.iconst 0, 1) := by decide +kernel
theorem dL_light_24 : decode cL_light 24 = .ok (.ireturn, 1) := by decide +kernel
theorem dL_broadest_0 : decode cL_broadest 0 = .ok (.aload_n 2, 1) := by decide +kernel
theorem dL_broadest_1 : decode cL_broadest 1 = .ok (.iconst 0, 1) := by decide +kernel
theorem dL_broadest_2 : decode cL_broadest 2 = .ok (.aload_n 0, 1) := by decide +kernel
theorem dL_broadest_3 : decode cL_broadest 3 = .ok (.iload_n 1, 1) := by decide +kernel
theorem dL_broadest_4 : decode cL_broadest 4 = .ok (.invokevirtual 88, 3) := by decide +kernel
theorem dL_broadest_7 : decode cL_broadest 7 = .ok (.i2l, 1) := by decide +kernel
theorem dL_broadest_8 : decode cL_broadest 8 = .ok (.lastore, 1) := by decide +kernel
theorem dL_broadest_9 : decode cL_broadest 9 = .ok (.goto 6, 3) := by decide +kernel
theorem dL_broadest_12 : decode cL_broadest 12 = .ok (.astore_n 3, 1) := by decide +kernel
theorem dL_broadest_13 : decode cL_broadest 13 = .ok (.iconst 1, 1) := by decide +kernel
theorem dL_broadest_14 : decode cL_broadest 14 = .ok (.ireturn, 1) := by decide +kernel
theorem dL_broadest_15 : decode cL_broadest 15 = .ok (.iconst 0, 1) := by decide +kernel
theorem dL_broadest_16 : decode cL_broadest 16 = .ok (.ireturn, 1) := by decide +kernel
theorem dL_strongest_0 : decode cL_strongest 0 = .ok (.aload_n 3, 1) := by decide +kernel
theorem dL_strongest_1 : decode cL_strongest 1 = .ok (.iconst 0, 1) := by decide +kernel
theorem dL_strongest_2 : decode cL_strongest 2 = .ok (.aload_n 0, 1) := by decide +kernel
theorem dL_strongest_3 : decode cL_strongest 3 = .ok (.iload_n 1, 1) := by decide +kernel
theorem dL_strongest_4 : decode cL_strongest 4 = .ok (.iload_n 2, 1) := by decide +kernel
theorem dL_strongest_5 : decode cL_strongest 5 = .ok (.invokevirtual 91, 3) := by decide +kernel
theorem dL_strongest_8 : decode cL_strongest 8 = .ok (.i2l, 1) := by decide +kernel
theorem dL_strongest_9 : decode cL_strongest 9 = .ok (.lastore, 1) := by decide +kernel
theorem dL_strongest_10 : decode cL_strongest 10 = .ok (.goto 11, 3) := by decide +kernel
theorem dL_strongest_13 : decode cL_strongest 13 = .ok (.astore 4, 2) := by decide +kernel
theorem dL_strongest_15 : decode cL_strongest 15 = .ok (.iconst 1, 1) := by decide +kernel
theorem dL_strongest_16 : decode cL_strongest 16 = .ok (.ireturn, 1) := by decide +kernel
theorem dL_strongest_17 : decode cL_strongest 17 = .ok (.astore 4, 2) := by decide +kernel
theorem dL_strongest_19 : decode cL_strongest 19 = .ok (.iconst 2, 1) := by decide +kernel
theorem dL_strongest_20 : decode cL_strongest 20 = .ok (.ireturn, 1) := by decide +kernel
theorem dL_strongest_21 : decode cL_strongest 21 = .ok (.iconst 0, 1) := by decide +kernel
theorem dL_strongest_22 : decode cL_strongest 22 = .ok (.ireturn, 1) := by decide +kernel
theorem dL_joins_0 : decode cL_joins 0 = .ok (.aload_n 3, 1) := by decide +kernel
theorem dL_joins_1 : decode cL_joins 1 = .ok (.iconst 0, 1) := by decide +kernel
theorem dL_joins_2 : decode cL_joins 2 = .ok (.aload_n 0, 1) := by decide +kernel
theorem dL_joins_3 : decode cL_joins 3 = .ok (.iload_n 1, 1) := by decide +kernel
theorem dL_joins_4 : decode cL_joins 4 = .ok (.iload_n 2, 1) := by decide +kernel
theorem dL_joins_5 : decode cL_joins 5 = .ok (.invokevirtual 94, 3) := by decide +kernel
theorem dL_joins_8 : decode cL_joins 8 = .ok (.i2l, 1) := by decide +kernel
theorem dL_joins_9 : decode cL_joins 9 = .ok (.lastore, 1) := by decide +kernel
theorem dL_joins_10 : decode cL_joins 10 = .ok (.goto 7, 3) := by decide +kernel
theorem dL_joins_13 : decode cL_joins 13 = .ok (.astore 4, 2) := by decide +kernel
theorem dL_joins_15 : decode cL_joins 15 = .ok (.iconst 1, 1) := by decide +kernel
theorem dL_joins_16 : decode cL_joins 16 = .ok (.ireturn, 1) := by decide +kernel
theorem dL_joins_17 : decode cL_joins 17 = .ok (.iconst 0, 1) := by decide +kernel
theorem dL_joins_18 : decode cL_joins 18 = .ok (.ireturn, 1) := by decide +kernel
theorem dL_blurs_0 : decode cL_blurs 0 = .ok (.aload_n 2, 1) := by decide +kernel
theorem dL_blurs_1 : decode cL_blurs 1 = .ok (.iconst 0, 1) := by decide +kernel
theorem dL_blurs_2 : decode cL_blurs 2 = .ok (.aload_n 0, 1) := by decide +kernel
theorem dL_blurs_3 : decode cL_blurs 3 = .ok (.iload_n 1, 1) := by decide +kernel
theorem dL_blurs_4 : decode cL_blurs 4 = .ok (.invokevirtual 97, 3) := by decide +kernel
theorem dL_blurs_7 : decode cL_blurs 7 = .ok (.i2l, 1) := by decide +kernel
theorem dL_blurs_8 : decode cL_blurs 8 = .ok (.lastore, 1) := by decide +kernel
theorem dL_blurs_9 : decode cL_blurs 9 = .ok (.goto 6, 3) := by decide +kernel
theorem dL_blurs_12 : decode cL_blurs 12 = .ok (.astore_n 3, 1) := by decide +kernel
theorem dL_blurs_13 : decode cL_blurs 13 = .ok (.iconst 1, 1) := by decide +kernel
theorem dL_blurs_14 : decode cL_blurs 14 = .ok (.ireturn, 1) := by decide +kernel
theorem dL_blurs_15 : decode cL_blurs 15 = .ok (.iconst 0, 1) := by decide +kernel
theorem dL_blurs_16 : decode cL_blurs 16 = .ok (.ireturn, 1) := by decide +kernel
theorem dL_lacks_0 : decode cL_lacks 0 = .ok (.aload_n 3, 1) := by decide +kernel
theorem dL_lacks_1 : decode cL_lacks 1 = .ok (.iconst 0, 1) := by decide +kernel
theorem dL_lacks_2 : decode cL_lacks 2 = .ok (.aload_n 0, 1) := by decide +kernel
theorem dL_lacks_3 : decode cL_lacks 3 = .ok (.iload_n 1, 1) := by decide +kernel
theorem dL_lacks_4 : decode cL_lacks 4 = .ok (.iload_n 2, 1) := by decide +kernel
theorem dL_lacks_5 : decode cL_lacks 5 = .ok (.invokevirtual 100, 3) := by decide +kernel
theorem dL_lacks_8 : decode cL_lacks 8 = .ok (.i2l, 1) := by decide +kernel
theorem dL_lacks_9 : decode cL_lacks 9 = .ok (.lastore, 1) := by decide +kernel
theorem dL_lacks_10 : decode cL_lacks 10 = .ok (.goto 11, 3) := by decide +kernel
theorem dL_lacks_13 : decode cL_lacks 13 = .ok (.astore 4, 2) := by decide +kernel
theorem dL_lacks_15 : decode cL_lacks 15 = .ok (.iconst 1, 1) := by decide +kernel
theorem dL_lacks_16 : decode cL_lacks 16 = .ok (.ireturn, 1) := by decide +kernel
theorem dL_lacks_17 : decode cL_lacks 17 = .ok (.astore 4, 2) := by decide +kernel
theorem dL_lacks_19 : decode cL_lacks 19 = .ok (.iconst 2, 1) := by decide +kernel
theorem dL_lacks_20 : decode cL_lacks 20 = .ok (.ireturn, 1) := by decide +kernel
theorem dL_lacks_21 : decode cL_lacks 21 = .ok (.iconst 0, 1) := by decide +kernel
theorem dL_lacks_22 : decode cL_lacks 22 = .ok (.ireturn, 1) := by decide +kernel
theorem dL_mates_0 : decode cL_mates 0 = .ok (.aload_n 2, 1) := by decide +kernel
theorem dL_mates_1 : decode cL_mates 1 = .ok (.iconst 0, 1) := by decide +kernel
theorem dL_mates_2 : decode cL_mates 2 = .ok (.aload_n 0, 1) := by decide +kernel
theorem dL_mates_3 : decode cL_mates 3 = .ok (.iload_n 1, 1) := by decide +kernel
theorem dL_mates_4 : decode cL_mates 4 = .ok (.invokevirtual 103, 3) := by decide +kernel
theorem dL_mates_7 : decode cL_mates 7 = .ok (.i2l, 1) := by decide +kernel
theorem dL_mates_8 : decode cL_mates 8 = .ok (.lastore, 1) := by decide +kernel
theorem dL_mates_9 : decode cL_mates 9 = .ok (.goto 6, 3) := by decide +kernel
theorem dL_mates_12 : decode cL_mates 12 = .ok (.astore_n 3, 1) := by decide +kernel
theorem dL_mates_13 : decode cL_mates 13 = .ok (.iconst 1, 1) := by decide +kernel
theorem dL_mates_14 : decode cL_mates 14 = .ok (.ireturn, 1) := by decide +kernel
theorem dL_mates_15 : decode cL_mates 15 = .ok (.iconst 0, 1) := by decide +kernel
theorem dL_mates_16 : decode cL_mates 16 = .ok (.ireturn, 1) := by decide +kernel
theorem dL_first_0 : decode cL_first 0 = .ok (.aload_n 2, 1) := by decide +kernel
theorem dL_first_1 : decode cL_first 1 = .ok (.iconst 0, 1) := by decide +kernel
theorem dL_first_2 : decode cL_first 2 = .ok (.aload_n 0, 1) := by decide +kernel
theorem dL_first_3 : decode cL_first 3 = .ok (.iload_n 1, 1) := by decide +kernel
theorem dL_first_4 : decode cL_first 4 = .ok (.invokevirtual 106, 3) := by decide +kernel
theorem dL_first_7 : decode cL_first 7 = .ok (.i2l, 1) := by decide +kernel
theorem dL_first_8 : decode cL_first 8 = .ok (.lastore, 1) := by decide +kernel
theorem dL_first_9 : decode cL_first 9 = .ok (.goto 6, 3) := by decide +kernel
theorem dL_first_12 : decode cL_first 12 = .ok (.astore_n 3, 1) := by decide +kernel
theorem dL_first_13 : decode cL_first 13 = .ok (.iconst 1, 1) := by decide +kernel
theorem dL_first_14 : decode cL_first 14 = .ok (.ireturn, 1) := by decide +kernel
theorem dL_first_15 : decode cL_first 15 = .ok (.iconst 0, 1) := by decide +kernel
theorem dL_first_16 : decode cL_first 16 = .ok (.ireturn, 1) := by decide +kernel
theorem dL_halo_0 : decode cL_halo 0 = .ok (.aload_n 3, 1) := by decide +kernel
theorem dL_halo_1 : decode cL_halo 1 = .ok (.iconst 0, 1) := by decide +kernel
theorem dL_halo_2 : decode cL_halo 2 = .ok (.aload_n 0, 1) := by decide +kernel
theorem dL_halo_3 : decode cL_halo 3 = .ok (.iload_n 1, 1) := by decide +kernel
theorem dL_halo_4 : decode cL_halo 4 = .ok (.iload_n 2, 1) := by decide +kernel
theorem dL_halo_5 : decode cL_halo 5 = .ok (.invokevirtual 109, 3) := by decide +kernel
theorem dL_halo_8 : decode cL_halo 8 = .ok (.i2l, 1) := by decide +kernel
theorem dL_halo_9 : decode cL_halo 9 = .ok (.lastore, 1) := by decide +kernel
theorem dL_halo_10 : decode cL_halo 10 = .ok (.goto 7, 3) := by decide +kernel
theorem dL_halo_13 : decode cL_halo 13 = .ok (.astore 4, 2) := by decide +kernel
theorem dL_halo_15 : decode cL_halo 15 = .ok (.iconst 1, 1) := by decide +kernel
theorem dL_halo_16 : decode cL_halo 16 = .ok (.ireturn, 1) := by decide +kernel
theorem dL_halo_17 : decode cL_halo 17 = .ok (.iconst 0, 1) := by decide +kernel
theorem dL_halo_18 : decode cL_halo 18 = .ok (.ireturn, 1) := by decide +kernel
theorem dL_term_0 : decode cL_term 0 = .ok (.aload 5, 2) := by decide +kernel
theorem dL_term_2 : decode cL_term 2 = .ok (.iconst 0, 1) := by decide +kernel
theorem dL_term_3 : decode cL_term 3 = .ok (.aload_n 0, 1) := by decide +kernel
theorem dL_term_4 : decode cL_term 4 = .ok (.iload_n 1, 1) := by decide +kernel
theorem dL_term_5 : decode cL_term 5 = .ok (.iload_n 2, 1) := by decide +kernel
theorem dL_term_6 : decode cL_term 6 = .ok (.iload_n 3, 1) := by decide +kernel
theorem dL_term_7 : decode cL_term 7 = .ok (.iload 4, 2) := by decide +kernel
theorem dL_term_9 : decode cL_term 9 = .ok (.invokevirtual 112, 3) := by decide +kernel
theorem dL_term_12 : decode cL_term 12 = .ok (.i2l, 1) := by decide +kernel
theorem dL_term_13 : decode cL_term 13 = .ok (.lastore, 1) := by decide +kernel
theorem dL_term_14 : decode cL_term 14 = .ok (.goto 7, 3) := by decide +kernel
theorem dL_term_17 : decode cL_term 17 = .ok (.astore 6, 2) := by decide +kernel
theorem dL_term_19 : decode cL_term 19 = .ok (.iconst 1, 1) := by decide +kernel
theorem dL_term_20 : decode cL_term 20 = .ok (.ireturn, 1) := by decide +kernel
theorem dL_term_21 : decode cL_term 21 = .ok (.iconst 0, 1) := by decide +kernel
theorem dL_term_22 : decode cL_term 22 = .ok (.ireturn, 1) := by decide +kernel
theorem dL_span_0 : decode cL_span 0 = .ok (.aload 7, 2) := by decide +kernel
theorem dL_span_2 : decode cL_span 2 = .ok (.iconst 0, 1) := by decide +kernel
theorem dL_span_3 : decode cL_span 3 = .ok (.aload_n 0, 1) := by decide +kernel
theorem dL_span_4 : decode cL_span 4 = .ok (.iload_n 1, 1) := by decide +kernel
theorem dL_span_5 : decode cL_span 5 = .ok (.iload_n 2, 1) := by decide +kernel
theorem dL_span_6 : decode cL_span 6 = .ok (.iload_n 3, 1) := by decide +kernel
theorem dL_span_7 : decode cL_span 7 = .ok (.iload 4, 2) := by decide +kernel
theorem dL_span_9 : decode cL_span 9 = .ok (.iload 5, 2) := by decide +kernel
theorem dL_span_11 : decode cL_span 11 = .ok (.iload 6, 2) := by decide +kernel
theorem dL_span_13 : decode cL_span 13 = .ok (.invokevirtual 115, 3) := by decide +kernel
theorem dL_span_16 : decode cL_span 16 = .ok (.i2l, 1) := by decide +kernel
theorem dL_span_17 : decode cL_span 17 = .ok (.lastore, 1) := by decide +kernel
theorem dL_span_18 : decode cL_span 18 = .ok (.goto 7, 3) := by decide +kernel
theorem dL_span_21 : decode cL_span 21 = .ok (.astore 8, 2) := by decide +kernel
theorem dL_span_23 : decode cL_span 23 = .ok (.iconst 1, 1) := by decide +kernel
theorem dL_span_24 : decode cL_span 24 = .ok (.ireturn, 1) := by decide +kernel
theorem dL_span_25 : decode cL_span 25 = .ok (.iconst 0, 1) := by decide +kernel
theorem dL_span_26 : decode cL_span 26 = .ok (.ireturn, 1) := by decide +kernel
set_option maxRecDepth 20000 in
theorem cw_X11_college : Cond.code yX11_college cX11_college 2 (some .int) ∈ BIG := inB (List.mem_of_getElem? (i := 561) rfl) rfl
theorem mv_L_7 : MV RL 7 yX11_college cX11_college 2 (some .int) 1 := ⟨inBi 558 (by decide +kernel), inBi 559 (by decide +kernel), inBi 560 (by decide +kernel), inBi 95 (by decide +kernel), cw_X11_college, by decide +kernel, by decide +kernel, by decide +kernel⟩
set_option maxRecDepth 20000 in
theorem cw_X11_law : Cond.code yX11_law cX11_law 2 (some .int) ∈ BIG := inB (List.mem_of_getElem? (i := 767) rfl) rfl
theorem mv_L_15 : MV RL 15 yX11_law cX11_law 2 (some .int) 1 := ⟨inBi 764 (by decide +kernel), inBi 765 (by decide +kernel), inBi 766 (by decide +kernel), inBi 95 (by decide +kernel), cw_X11_law, by decide +kernel, by decide +kernel, by decide +kernel⟩
set_option maxRecDepth 20000 in
theorem cw_X11_work : Cond.code yX11_work cX11_work 2 (some .int) ∈ BIG := inB (List.mem_of_getElem? (i := 811) rfl) rfl
theorem mv_L_18 : MV RL 18 yX11_work cX11_work 2 (some .int) 1 := ⟨inBi 808 (by decide +kernel), inBi 809 (by decide +kernel), inBi 810 (by decide +kernel), inBi 95 (by decide +kernel), cw_X11_work, by decide +kernel, by decide +kernel, by decide +kernel⟩
set_option maxRecDepth 20000 in
theorem cw_X11_book : Cond.code yX11_book cX11_book 2 (some .int) ∈ BIG := inB (List.mem_of_getElem? (i := 916) rfl) rfl
theorem mv_L_21 : MV RL 21 yX11_book cX11_book 2 (some .int) 1 := ⟨inBi 913 (by decide +kernel), inBi 914 (by decide +kernel), inBi 915 (by decide +kernel), inBi 95 (by decide +kernel), cw_X11_book, by decide +kernel, by decide +kernel, by decide +kernel⟩
set_option maxRecDepth 20000 in
theorem cw_X11_told : Cond.code yX11_told cX11_told 2 (some .int) ∈ BIG := inB (List.mem_of_getElem? (i := 942) rfl) rfl
theorem mv_L_24 : MV RL 24 yX11_told cX11_told 2 (some .int) 1 := ⟨inBi 939 (by decide +kernel), inBi 940 (by decide +kernel), inBi 941 (by decide +kernel), inBi 95 (by decide +kernel), cw_X11_told, by decide +kernel, by decide +kernel, by decide +kernel⟩
set_option maxRecDepth 20000 in
theorem cw_X11_fellow : Cond.code yX11_fellow cX11_fellow 4 (some .int) ∈ BIG := inB (List.mem_of_getElem? (i := 978) rfl) rfl
theorem mv_L_27 : MV RL 27 yX11_fellow cX11_fellow 4 (some .int) 2 := ⟨inBi 975 (by decide +kernel), inBi 976 (by decide +kernel), inBi 977 (by decide +kernel), inBi 95 (by decide +kernel), cw_X11_fellow, by decide +kernel, by decide +kernel, by decide +kernel⟩
set_option maxRecDepth 20000 in
theorem cw_X11_part : Cond.code yX11_part cX11_part 5 (some .int) ∈ BIG := inB (List.mem_of_getElem? (i := 1023) rfl) rfl
theorem mv_L_33 : MV RL 33 yX11_part cX11_part 5 (some .int) 3 := ⟨inBi 1020 (by decide +kernel), inBi 1021 (by decide +kernel), inBi 1022 (by decide +kernel), inBi 95 (by decide +kernel), cw_X11_part, by decide +kernel, by decide +kernel, by decide +kernel⟩
set_option maxRecDepth 20000 in
theorem cw_X11_glass : Cond.code yX11_glass cX11_glass 3 (some .int) ∈ BIG := inB (List.mem_of_getElem? (i := 1033) rfl) rfl
theorem mv_L_37 : MV RL 37 yX11_glass cX11_glass 3 (some .int) 2 := ⟨inBi 1030 (by decide +kernel), inBi 1031 (by decide +kernel), inBi 1032 (by decide +kernel), inBi 95 (by decide +kernel), cw_X11_glass, by decide +kernel, by decide +kernel, by decide +kernel⟩
set_option maxRecDepth 20000 in
theorem cw_X11_place : Cond.code yX11_place cX11_place 2 (some .int) ∈ BIG := inB (List.mem_of_getElem? (i := 1045) rfl) rfl
theorem mv_L_40 : MV RL 40 yX11_place cX11_place 2 (some .int) 1 := ⟨inBi 1042 (by decide +kernel), inBi 1043 (by decide +kernel), inBi 1044 (by decide +kernel), inBi 95 (by decide +kernel), cw_X11_place, by decide +kernel, by decide +kernel, by decide +kernel⟩
set_option maxRecDepth 20000 in
theorem cw_X11_turn : Cond.code yX11_turn cX11_turn 4 (some .int) ∈ BIG := inB (List.mem_of_getElem? (i := 1056) rfl) rfl
theorem mv_L_43 : MV RL 43 yX11_turn cX11_turn 4 (some .int) 3 := ⟨inBi 1053 (by decide +kernel), inBi 1054 (by decide +kernel), inBi 1055 (by decide +kernel), inBi 95 (by decide +kernel), cw_X11_turn, by decide +kernel, by decide +kernel, by decide +kernel⟩
set_option maxRecDepth 20000 in
theorem cw_X11_would : Cond.code yX11_would cX11_would 10 (some .int) ∈ BIG := inB (List.mem_of_getElem? (i := 1064) rfl) rfl
theorem mv_L_46 : MV RL 46 yX11_would cX11_would 10 (some .int) 8 := ⟨inBi 1061 (by decide +kernel), inBi 1062 (by decide +kernel), inBi 1063 (by decide +kernel), inBi 95 (by decide +kernel), cw_X11_would, by decide +kernel, by decide +kernel, by decide +kernel⟩
set_option maxRecDepth 20000 in
theorem cw_X11_ahead : Cond.code yX11_ahead cX11_ahead 3 (some .int) ∈ BIG := inB (List.mem_of_getElem? (i := 1073) rfl) rfl
theorem mv_L_50 : MV RL 50 yX11_ahead cX11_ahead 3 (some .int) 2 := ⟨inBi 1070 (by decide +kernel), inBi 1071 (by decide +kernel), inBi 1072 (by decide +kernel), inBi 95 (by decide +kernel), cw_X11_ahead, by decide +kernel, by decide +kernel, by decide +kernel⟩
set_option maxRecDepth 20000 in
theorem cw_X11_spread : Cond.code yX11_spread cX11_spread 2 (some .int) ∈ BIG := inB (List.mem_of_getElem? (i := 1084) rfl) rfl
theorem mv_L_53 : MV RL 53 yX11_spread cX11_spread 2 (some .int) 1 := ⟨inBi 1081 (by decide +kernel), inBi 1082 (by decide +kernel), inBi 1083 (by decide +kernel), inBi 95 (by decide +kernel), cw_X11_spread, by decide +kernel, by decide +kernel, by decide +kernel⟩
set_option maxRecDepth 20000 in
theorem cw_X11_bow : Cond.code yX11_bow cX11_bow 8 (some .int) ∈ BIG := inB (List.mem_of_getElem? (i := 1096) rfl) rfl
theorem mv_L_56 : MV RL 56 yX11_bow cX11_bow 8 (some .int) 1 := ⟨inBi 1093 (by decide +kernel), inBi 1094 (by decide +kernel), inBi 1095 (by decide +kernel), inBi 95 (by decide +kernel), cw_X11_bow, by decide +kernel, by decide +kernel, by decide +kernel⟩
set_option maxRecDepth 20000 in
theorem cw_X11_through : Cond.code yX11_through cX11_through 6 (some .int) ∈ BIG := inB (List.mem_of_getElem? (i := 1110) rfl) rfl
theorem mv_L_59 : MV RL 59 yX11_through cX11_through 6 (some .int) 3 := ⟨inBi 1107 (by decide +kernel), inBi 1108 (by decide +kernel), inBi 1109 (by decide +kernel), inBi 95 (by decide +kernel), cw_X11_through, by decide +kernel, by decide +kernel, by decide +kernel⟩
set_option maxRecDepth 20000 in
theorem cw_X11_serves : Cond.code yX11_serves cX11_serves 7 (some .int) ∈ BIG := inB (List.mem_of_getElem? (i := 1125) rfl) rfl
theorem mv_L_62 : MV RL 62 yX11_serves cX11_serves 7 (some .int) 2 := ⟨inBi 1122 (by decide +kernel), inBi 1123 (by decide +kernel), inBi 1124 (by decide +kernel), inBi 95 (by decide +kernel), cw_X11_serves, by decide +kernel, by decide +kernel, by decide +kernel⟩
set_option maxRecDepth 20000 in
theorem cw_X11_fits : Cond.code yX11_fits cX11_fits 2 (some .int) ∈ BIG := inB (List.mem_of_getElem? (i := 1133) rfl) rfl
theorem mv_L_65 : MV RL 65 yX11_fits cX11_fits 2 (some .int) 1 := ⟨inBi 1130 (by decide +kernel), inBi 1131 (by decide +kernel), inBi 1132 (by decide +kernel), inBi 95 (by decide +kernel), cw_X11_fits, by decide +kernel, by decide +kernel, by decide +kernel⟩
set_option maxRecDepth 20000 in
theorem cw_X11_look : Cond.code yX11_look cX11_look 6 (some .int) ∈ BIG := inB (List.mem_of_getElem? (i := 1156) rfl) rfl
theorem mv_L_68 : MV RL 68 yX11_look cX11_look 6 (some .int) 1 := ⟨inBi 1153 (by decide +kernel), inBi 1154 (by decide +kernel), inBi 1155 (by decide +kernel), inBi 95 (by decide +kernel), cw_X11_look, by decide +kernel, by decide +kernel, by decide +kernel⟩
set_option maxRecDepth 20000 in
theorem cw_X11_swings : Cond.code yX11_swings cX11_swings 6 (some .int) ∈ BIG := inB (List.mem_of_getElem? (i := 1172) rfl) rfl
theorem mv_L_71 : MV RL 71 yX11_swings cX11_swings 6 (some .int) 3 := ⟨inBi 1169 (by decide +kernel), inBi 1170 (by decide +kernel), inBi 1171 (by decide +kernel), inBi 95 (by decide +kernel), cw_X11_swings, by decide +kernel, by decide +kernel, by decide +kernel⟩
set_option maxRecDepth 20000 in
theorem cw_X11_power : Cond.code yX11_power cX11_power 8 (some .int) ∈ BIG := inB (List.mem_of_getElem? (i := 1186) rfl) rfl
theorem mv_L_74 : MV RL 74 yX11_power cX11_power 8 (some .int) 4 := ⟨inBi 1183 (by decide +kernel), inBi 1184 (by decide +kernel), inBi 1185 (by decide +kernel), inBi 95 (by decide +kernel), cw_X11_power, by decide +kernel, by decide +kernel, by decide +kernel⟩
set_option maxRecDepth 20000 in
theorem cw_X11_green : Cond.code yX11_green cX11_green 9 (some .long) ∈ BIG := inB (List.mem_of_getElem? (i := 1202) rfl) rfl
theorem mv_L_78 : MV RL 78 yX11_green cX11_green 9 (some .long) 3 := ⟨inBi 1199 (by decide +kernel), inBi 1200 (by decide +kernel), inBi 1201 (by decide +kernel), inBi 95 (by decide +kernel), cw_X11_green, by decide +kernel, by decide +kernel, by decide +kernel⟩
set_option maxRecDepth 20000 in
theorem cw_X11_lookers : Cond.code yX11_lookers cX11_lookers 9 (some .int) ∈ BIG := inB (List.mem_of_getElem? (i := 1210) rfl) rfl
theorem mv_L_82 : MV RL 82 yX11_lookers cX11_lookers 9 (some .int) 3 := ⟨inBi 1207 (by decide +kernel), inBi 1208 (by decide +kernel), inBi 1209 (by decide +kernel), inBi 95 (by decide +kernel), cw_X11_lookers, by decide +kernel, by decide +kernel, by decide +kernel⟩
set_option maxRecDepth 20000 in
theorem cw_X11_light : Cond.code yX11_light cX11_light 6 (some .int) ∈ BIG := inB (List.mem_of_getElem? (i := 1223) rfl) rfl
theorem mv_L_85 : MV RL 85 yX11_light cX11_light 6 (some .int) 3 := ⟨inBi 1220 (by decide +kernel), inBi 1221 (by decide +kernel), inBi 1222 (by decide +kernel), inBi 95 (by decide +kernel), cw_X11_light, by decide +kernel, by decide +kernel, by decide +kernel⟩
set_option maxRecDepth 20000 in
theorem cw_X11_broadest : Cond.code yX11_broadest cX11_broadest 6 (some .int) ∈ BIG := inB (List.mem_of_getElem? (i := 1232) rfl) rfl
theorem mv_L_88 : MV RL 88 yX11_broadest cX11_broadest 6 (some .int) 1 := ⟨inBi 1229 (by decide +kernel), inBi 1230 (by decide +kernel), inBi 1231 (by decide +kernel), inBi 95 (by decide +kernel), cw_X11_broadest, by decide +kernel, by decide +kernel, by decide +kernel⟩
set_option maxRecDepth 20000 in
theorem cw_X11_strongest : Cond.code yX11_strongest cX11_strongest 4 (some .int) ∈ BIG := inB (List.mem_of_getElem? (i := 1239) rfl) rfl
theorem mv_L_91 : MV RL 91 yX11_strongest cX11_strongest 4 (some .int) 2 := ⟨inBi 1236 (by decide +kernel), inBi 1237 (by decide +kernel), inBi 1238 (by decide +kernel), inBi 95 (by decide +kernel), cw_X11_strongest, by decide +kernel, by decide +kernel, by decide +kernel⟩
set_option maxRecDepth 20000 in
theorem cw_X11_joins : Cond.code yX11_joins cX11_joins 3 (some .int) ∈ BIG := inB (List.mem_of_getElem? (i := 1250) rfl) rfl
theorem mv_L_94 : MV RL 94 yX11_joins cX11_joins 3 (some .int) 2 := ⟨inBi 1247 (by decide +kernel), inBi 1248 (by decide +kernel), inBi 1249 (by decide +kernel), inBi 95 (by decide +kernel), cw_X11_joins, by decide +kernel, by decide +kernel, by decide +kernel⟩
set_option maxRecDepth 20000 in
theorem cw_X11_blurs : Cond.code yX11_blurs cX11_blurs 4 (some .int) ∈ BIG := inB (List.mem_of_getElem? (i := 1258) rfl) rfl
theorem mv_L_97 : MV RL 97 yX11_blurs cX11_blurs 4 (some .int) 1 := ⟨inBi 1255 (by decide +kernel), inBi 1256 (by decide +kernel), inBi 1257 (by decide +kernel), inBi 95 (by decide +kernel), cw_X11_blurs, by decide +kernel, by decide +kernel, by decide +kernel⟩
set_option maxRecDepth 20000 in
theorem cw_X11_lacks : Cond.code yX11_lacks cX11_lacks 4 (some .int) ∈ BIG := inB (List.mem_of_getElem? (i := 1273) rfl) rfl
theorem mv_L_100 : MV RL 100 yX11_lacks cX11_lacks 4 (some .int) 2 := ⟨inBi 1270 (by decide +kernel), inBi 1271 (by decide +kernel), inBi 1272 (by decide +kernel), inBi 95 (by decide +kernel), cw_X11_lacks, by decide +kernel, by decide +kernel, by decide +kernel⟩
set_option maxRecDepth 20000 in
theorem cw_X11_mates : Cond.code yX11_mates cX11_mates 4 (some .int) ∈ BIG := inB (List.mem_of_getElem? (i := 1280) rfl) rfl
theorem mv_L_103 : MV RL 103 yX11_mates cX11_mates 4 (some .int) 1 := ⟨inBi 1277 (by decide +kernel), inBi 1278 (by decide +kernel), inBi 1279 (by decide +kernel), inBi 95 (by decide +kernel), cw_X11_mates, by decide +kernel, by decide +kernel, by decide +kernel⟩
set_option maxRecDepth 20000 in
theorem cw_X11_first : Cond.code yX11_first cX11_first 5 (some .int) ∈ BIG := inB (List.mem_of_getElem? (i := 1287) rfl) rfl
theorem mv_L_106 : MV RL 106 yX11_first cX11_first 5 (some .int) 1 := ⟨inBi 1284 (by decide +kernel), inBi 1285 (by decide +kernel), inBi 1286 (by decide +kernel), inBi 95 (by decide +kernel), cw_X11_first, by decide +kernel, by decide +kernel, by decide +kernel⟩
set_option maxRecDepth 20000 in
theorem cw_X11_halo : Cond.code yX11_halo cX11_halo 3 (some .int) ∈ BIG := inB (List.mem_of_getElem? (i := 1294) rfl) rfl
theorem mv_L_109 : MV RL 109 yX11_halo cX11_halo 3 (some .int) 2 := ⟨inBi 1291 (by decide +kernel), inBi 1292 (by decide +kernel), inBi 1293 (by decide +kernel), inBi 95 (by decide +kernel), cw_X11_halo, by decide +kernel, by decide +kernel, by decide +kernel⟩
set_option maxRecDepth 20000 in
theorem cw_X11_term : Cond.code yX11_term cX11_term 6 (some .int) ∈ BIG := inB (List.mem_of_getElem? (i := 1301) rfl) rfl
theorem mv_L_112 : MV RL 112 yX11_term cX11_term 6 (some .int) 4 := ⟨inBi 1298 (by decide +kernel), inBi 1299 (by decide +kernel), inBi 1300 (by decide +kernel), inBi 95 (by decide +kernel), cw_X11_term, by decide +kernel, by decide +kernel, by decide +kernel⟩
set_option maxRecDepth 20000 in
theorem cw_X11_span : Cond.code yX11_span cX11_span 12 (some .int) ∈ BIG := inB (List.mem_of_getElem? (i := 1333) rfl) rfl
theorem mv_L_115 : MV RL 115 yX11_span cX11_span 12 (some .int) 6 := ⟨inBi 1330 (by decide +kernel), inBi 1331 (by decide +kernel), inBi 1332 (by decide +kernel), inBi 95 (by decide +kernel), cw_X11_span, by decide +kernel, by decide +kernel, by decide +kernel⟩
def fL_college (sh : Shp) (x0 : Nat) (x1 : Int32) (x2 : Nat) (mm : Mem) : Option (Int32 × Mem) :=
  (isO sh 11 x0).bind fun _ =>
  bd2 (fX11_college sh x0 x1 mm) fun u m1 =>
  sme u (fun r1 => (lS sh m1 x2 0 (r1.toInt64)).bind fun m2 => some (0, m2)) (fun k => (hcI k).bind fun z => some (z, m1))
def fL_law (sh : Shp) (x0 : Nat) (x1 : Int32) (x2 : Nat) (mm : Mem) : Option (Int32 × Mem) :=
  (isO sh 11 x0).bind fun _ =>
  bd2 (fX11_law sh x0 x1 mm) fun u m1 =>
  sme u (fun r1 => (lS sh m1 x2 0 (r1.toInt64)).bind fun m2 => some (0, m2)) (fun k => (hcI k).bind fun z => some (z, m1))
def fL_work (sh : Shp) (x0 : Nat) (x1 : Int32) (x2 : Nat) (mm : Mem) : Option (Int32 × Mem) :=
  (isO sh 11 x0).bind fun _ =>
  bd2 (fX11_work sh x0 x1 mm) fun u m1 =>
  sme u (fun r1 => (lS sh m1 x2 0 (r1.toInt64)).bind fun m2 => some (0, m2)) (fun k => (hcI k).bind fun z => some (z, m1))
def fL_book (sh : Shp) (x0 : Nat) (x1 : Int32) (x2 : Nat) (mm : Mem) : Option (Int32 × Mem) :=
  (isO sh 11 x0).bind fun _ =>
  bd2 (fX11_book sh x0 x1 mm) fun u m1 =>
  sme u (fun r1 => (lS sh m1 x2 0 (r1.toInt64)).bind fun m2 => some (0, m2)) (fun k => (hcI k).bind fun z => some (z, m1))
def fL_told (sh : Shp) (x0 : Nat) (x1 : Int32) (x2 : Nat) (mm : Mem) : Option (Int32 × Mem) :=
  (isO sh 11 x0).bind fun _ =>
  bd2 (fX11_told sh x0 x1 mm) fun u m1 =>
  sme u (fun r1 => (lS sh m1 x2 0 (r1.toInt64)).bind fun m2 => some (0, m2)) (fun k => (hcI k).bind fun z => some (z, m1))
def fL_fellow (sh : Shp) (x0 : Nat) (x1 : Int32) (x2 : Int32) (x3 : Nat) (mm : Mem) : Option (Int32 × Mem) :=
  (isO sh 11 x0).bind fun _ =>
  bd2 (fX11_fellow sh x0 x1 x2 mm) fun u m1 =>
  sme u (fun r1 => (lS sh m1 x3 0 (r1.toInt64)).bind fun m2 => some (0, m2)) (fun k => (hcB k).bind fun z => some (z, m1))
def fL_part (sh : Shp) (x0 : Nat) (x1 : Int32) (x2 : Int32) (x3 : Int32) (x4 : Nat) (mm : Mem) : Option (Int32 × Mem) :=
  (isO sh 11 x0).bind fun _ =>
  bd2 (fX11_part sh x0 x1 x2 x3 mm) fun u m1 =>
  sme u (fun r1 => (lS sh m1 x4 0 (r1.toInt64)).bind fun m2 => some (0, m2)) (fun k => (hcB k).bind fun z => some (z, m1))
def fL_glass (sh : Shp) (x0 : Nat) (x1 : Int32) (x2 : Int32) (x3 : Nat) (mm : Mem) : Option (Int32 × Mem) :=
  (isO sh 11 x0).bind fun _ =>
  bd2 (fX11_glass sh x0 x1 x2 mm) fun u m1 =>
  sme u (fun r1 => (lS sh m1 x3 0 (r1.toInt64)).bind fun m2 => some (0, m2)) (fun k => (hcB k).bind fun z => some (z, m1))
def fL_place (sh : Shp) (x0 : Nat) (x1 : Int32) (x2 : Nat) (mm : Mem) : Option (Int32 × Mem) :=
  (isO sh 11 x0).bind fun _ =>
  bd2 (fX11_place sh x0 x1 mm) fun u m1 =>
  sme u (fun r1 => (lS sh m1 x2 0 (r1.toInt64)).bind fun m2 => some (0, m2)) (fun k => (hcI k).bind fun z => some (z, m1))
def fL_turn (sh : Shp) (x0 : Nat) (x1 : Int32) (x2 : Int32) (x3 : Int32) (x4 : Nat) (mm : Mem) : Option (Int32 × Mem) :=
  (isO sh 11 x0).bind fun _ =>
  bd2 (fX11_turn sh x0 x1 x2 x3 mm) fun u m1 =>
  sme u (fun r1 => (lS sh m1 x4 0 (r1.toInt64)).bind fun m2 => some (0, m2)) (fun k => (hcB k).bind fun z => some (z, m1))
def fL_would (sh : Shp) (x0 : Nat) (x1 : Int32) (x2 : Int32) (x3 : Int32) (x4 : Int32) (x5 : Int32) (x6 : Int32) (x7 : Int32) (x8 : Int32) (x9 : Nat) (mm : Mem) : Option (Int32 × Mem) :=
  (isO sh 11 x0).bind fun _ =>
  bd2 (fX11_would sh x0 x1 x2 x3 x4 x5 x6 x7 x8 mm) fun u m1 =>
  sme u (fun r1 => (lS sh m1 x9 0 (r1.toInt64)).bind fun m2 => some (0, m2)) (fun k => (hcI k).bind fun z => some (z, m1))
def fL_ahead (sh : Shp) (x0 : Nat) (x1 : Int32) (x2 : Int32) (x3 : Nat) (mm : Mem) : Option (Int32 × Mem) :=
  (isO sh 11 x0).bind fun _ =>
  bd2 (fX11_ahead sh x0 x1 x2 mm) fun u m1 =>
  sme u (fun r1 => (lS sh m1 x3 0 (r1.toInt64)).bind fun m2 => some (0, m2)) (fun k => (hcI k).bind fun z => some (z, m1))
def fL_spread (sh : Shp) (x0 : Nat) (x1 : Int32) (x2 : Nat) (mm : Mem) : Option (Int32 × Mem) :=
  (isO sh 11 x0).bind fun _ =>
  bd2 (fX11_spread sh x0 x1 mm) fun u m1 =>
  sme u (fun r1 => (lS sh m1 x2 0 (r1.toInt64)).bind fun m2 => some (0, m2)) (fun k => (hcI k).bind fun z => some (z, m1))
def fL_bow (sh : Shp) (x0 : Nat) (x1 : Int32) (x2 : Nat) (mm : Mem) : Option (Int32 × Mem) :=
  (isO sh 11 x0).bind fun _ =>
  bd2 (fX11_bow sh x0 x1 mm) fun u m1 =>
  sme u (fun r1 => (lS sh m1 x2 0 (r1.toInt64)).bind fun m2 => some (0, m2)) (fun k => (hcI k).bind fun z => some (z, m1))
def fL_through (sh : Shp) (x0 : Nat) (x1 : Int32) (x2 : Int32) (x3 : Int32) (x4 : Nat) (mm : Mem) : Option (Int32 × Mem) :=
  (isO sh 11 x0).bind fun _ =>
  bd2 (fX11_through sh x0 x1 x2 x3 mm) fun u m1 =>
  sme u (fun r1 => (lS sh m1 x4 0 (r1.toInt64)).bind fun m2 => some (0, m2)) (fun k => (hcB k).bind fun z => some (z, m1))
def fL_serves (sh : Shp) (x0 : Nat) (x1 : Int32) (x2 : Int32) (x3 : Nat) (mm : Mem) : Option (Int32 × Mem) :=
  (isO sh 11 x0).bind fun _ =>
  bd2 (fX11_serves sh x0 x1 x2 mm) fun u m1 =>
  sme u (fun r1 => (lS sh m1 x3 0 (r1.toInt64)).bind fun m2 => some (0, m2)) (fun k => (hcI k).bind fun z => some (z, m1))
def fL_fits (sh : Shp) (x0 : Nat) (x1 : Int32) (x2 : Nat) (mm : Mem) : Option (Int32 × Mem) :=
  (isO sh 11 x0).bind fun _ =>
  bd2 (fX11_fits sh x0 x1 mm) fun u m1 =>
  sme u (fun r1 => (lS sh m1 x2 0 (r1.toInt64)).bind fun m2 => some (0, m2)) (fun k => (hcI k).bind fun z => some (z, m1))
def fL_look (sh : Shp) (x0 : Nat) (x1 : Int32) (x2 : Nat) (mm : Mem) : Option (Int32 × Mem) :=
  (isO sh 11 x0).bind fun _ =>
  bd2 (fX11_look sh x0 x1 mm) fun u m1 =>
  sme u (fun r1 => (lS sh m1 x2 0 (r1.toInt64)).bind fun m2 => some (0, m2)) (fun k => (hcI k).bind fun z => some (z, m1))
def fL_swings (sh : Shp) (x0 : Nat) (x1 : Int32) (x2 : Int32) (x3 : Int32) (x4 : Nat) (mm : Mem) : Option (Int32 × Mem) :=
  (isO sh 11 x0).bind fun _ =>
  bd2 (fX11_swings sh x0 x1 x2 x3 mm) fun u m1 =>
  sme u (fun r1 => (lS sh m1 x4 0 (r1.toInt64)).bind fun m2 => some (0, m2)) (fun k => (hcB k).bind fun z => some (z, m1))
def fL_power (sh : Shp) (x0 : Nat) (x1 : Int32) (x2 : Int32) (x3 : Int32) (x4 : Int32) (x5 : Nat) (mm : Mem) : Option (Int32 × Mem) :=
  (isO sh 11 x0).bind fun _ =>
  bd2 (fX11_power sh x0 x1 x2 x3 x4 mm) fun u m1 =>
  sme u (fun r1 => (lS sh m1 x5 0 (r1.toInt64)).bind fun m2 => some (0, m2)) (fun k => (hcB k).bind fun z => some (z, m1))
def fL_green (sh : Shp) (x0 : Nat) (x1 : Int32) (x2 : Int32) (x3 : Int32) (x4 : Nat) (mm : Mem) : Option (Int32 × Mem) :=
  (isO sh 11 x0).bind fun _ =>
  bd2 (fX11_green sh x0 x1 x2 x3 mm) fun u m1 =>
  sme u (fun r1 => (lS sh m1 x4 0 r1).bind fun m2 => some (0, m2)) (fun k => (hcI k).bind fun z => some (z, m1))
def fL_lookers (sh : Shp) (x0 : Nat) (x1 : Int32) (x2 : Int32) (x3 : Int32) (x4 : Nat) (mm : Mem) : Option (Int32 × Mem) :=
  (isO sh 11 x0).bind fun _ =>
  bd2 (fX11_lookers sh x0 x1 x2 x3 mm) fun u m1 =>
  sme u (fun r1 => (lS sh m1 x4 0 (r1.toInt64)).bind fun m2 => some (0, m2)) (fun k => (hcI k).bind fun z => some (z, m1))
def fL_light (sh : Shp) (x0 : Nat) (x1 : Int32) (x2 : Int32) (x3 : Int32) (x4 : Nat) (mm : Mem) : Option (Int32 × Mem) :=
  (isO sh 11 x0).bind fun _ =>
  bd2 (fX11_light sh x0 x1 x2 x3 mm) fun u m1 =>
  sme u (fun r1 => (lS sh m1 x4 0 (r1.toInt64)).bind fun m2 => some (0, m2)) (fun k => (hcB k).bind fun z => some (z, m1))
def fL_broadest (sh : Shp) (x0 : Nat) (x1 : Int32) (x2 : Nat) (mm : Mem) : Option (Int32 × Mem) :=
  (isO sh 11 x0).bind fun _ =>
  bd2 (fX11_broadest sh x0 x1 mm) fun u m1 =>
  sme u (fun r1 => (lS sh m1 x2 0 (r1.toInt64)).bind fun m2 => some (0, m2)) (fun k => (hcI k).bind fun z => some (z, m1))
def fL_strongest (sh : Shp) (x0 : Nat) (x1 : Int32) (x2 : Int32) (x3 : Nat) (mm : Mem) : Option (Int32 × Mem) :=
  (isO sh 11 x0).bind fun _ =>
  bd2 (fX11_strongest sh x0 x1 x2 mm) fun u m1 =>
  sme u (fun r1 => (lS sh m1 x3 0 (r1.toInt64)).bind fun m2 => some (0, m2)) (fun k => (hcB k).bind fun z => some (z, m1))
def fL_joins (sh : Shp) (x0 : Nat) (x1 : Int32) (x2 : Int32) (x3 : Nat) (mm : Mem) : Option (Int32 × Mem) :=
  (isO sh 11 x0).bind fun _ =>
  bd2 (fX11_joins sh x0 x1 x2 mm) fun u m1 =>
  sme u (fun r1 => (lS sh m1 x3 0 (r1.toInt64)).bind fun m2 => some (0, m2)) (fun k => (hcN k).bind fun z => some (z, m1))
def fL_blurs (sh : Shp) (x0 : Nat) (x1 : Int32) (x2 : Nat) (mm : Mem) : Option (Int32 × Mem) :=
  (isO sh 11 x0).bind fun _ =>
  bd2 (fX11_blurs sh x0 x1 mm) fun u m1 =>
  sme u (fun r1 => (lS sh m1 x2 0 (r1.toInt64)).bind fun m2 => some (0, m2)) (fun k => (hcN k).bind fun z => some (z, m1))
def fL_lacks (sh : Shp) (x0 : Nat) (x1 : Int32) (x2 : Int32) (x3 : Nat) (mm : Mem) : Option (Int32 × Mem) :=
  (isO sh 11 x0).bind fun _ =>
  bd2 (fX11_lacks sh x0 x1 x2 mm) fun u m1 =>
  sme u (fun r1 => (lS sh m1 x3 0 (r1.toInt64)).bind fun m2 => some (0, m2)) (fun k => (hcB k).bind fun z => some (z, m1))
def fL_mates (sh : Shp) (x0 : Nat) (x1 : Int32) (x2 : Nat) (mm : Mem) : Option (Int32 × Mem) :=
  (isO sh 11 x0).bind fun _ =>
  bd2 (fX11_mates sh x0 x1 mm) fun u m1 =>
  sme u (fun r1 => (lS sh m1 x2 0 (r1.toInt64)).bind fun m2 => some (0, m2)) (fun k => (hcN k).bind fun z => some (z, m1))
def fL_first (sh : Shp) (x0 : Nat) (x1 : Int32) (x2 : Nat) (mm : Mem) : Option (Int32 × Mem) :=
  (isO sh 11 x0).bind fun _ =>
  bd2 (fX11_first sh x0 x1 mm) fun u m1 =>
  sme u (fun r1 => (lS sh m1 x2 0 (r1.toInt64)).bind fun m2 => some (0, m2)) (fun k => (hcN k).bind fun z => some (z, m1))
def fL_halo (sh : Shp) (x0 : Nat) (x1 : Int32) (x2 : Int32) (x3 : Nat) (mm : Mem) : Option (Int32 × Mem) :=
  (isO sh 11 x0).bind fun _ =>
  bd2 (fX11_halo sh x0 x1 x2 mm) fun u m1 =>
  sme u (fun r1 => (lS sh m1 x3 0 (r1.toInt64)).bind fun m2 => some (0, m2)) (fun k => (hcI k).bind fun z => some (z, m1))
def fL_term (sh : Shp) (x0 : Nat) (x1 : Int32) (x2 : Int32) (x3 : Int32) (x4 : Int32) (x5 : Nat) (mm : Mem) : Option (Int32 × Mem) :=
  (isO sh 11 x0).bind fun _ =>
  bd2 (fX11_term sh x0 x1 x2 x3 x4 mm) fun u m1 =>
  sme u (fun r1 => (lS sh m1 x5 0 (r1.toInt64)).bind fun m2 => some (0, m2)) (fun k => (hcI k).bind fun z => some (z, m1))
def fL_span (sh : Shp) (x0 : Nat) (x1 : Int32) (x2 : Int32) (x3 : Int32) (x4 : Int32) (x5 : Int32) (x6 : Int32) (x7 : Nat) (mm : Mem) : Option (Int32 × Mem) :=
  (isO sh 11 x0).bind fun _ =>
  bd2 (fX11_span sh x0 x1 x2 x3 x4 x5 x6 mm) fun u m1 =>
  sme u (fun r1 => (lS sh m1 x7 0 (r1.toInt64)).bind fun m2 => some (0, m2)) (fun k => (hcI k).bind fun z => some (z, m1))
set_option maxHeartbeats 4000000 in
set_option maxRecDepth 100000 in
theorem cL_college_ok {l : Launch} {E : Ev} (hl0 : l.stackTraces = false) {x0 : Nat} {x1 : Int32} {x2 : Nat} {mm : Mem} {r : Int32} {mm1 : Mem} (hf : fL_college (eS E) x0 x1 x2 mm = some (r, mm1)) : CtH l yL_college cL_college 4 (some .int) [(0, 9, 12, 13)] 10 201 E [.ref x0, .int x1, .ref x2] mm r mm1 := by
  refine vx_ofWH (cc := cL_college) (maxL := 4) (ret := some .int) (hh := [(0, 9, 12, 13)]) (by decide) rfl ?_
  intro p e s m args below meth c s₁ B hml hv
  obtain ⟨rfl, X, hS, hr, hlocks, htab⟩ := am_inH B hv
  refine am_entry (Nat.le_of_ble_eq_true rfl) (fun ls hl => ?_)
  have hl : lv_has ls 4 [(0, .ref x0), (1, .int x1), (2, .ref x2)] := hl
  have hx := X.1
  have hb := X.2.1
  unfold fL_college at hf
  obtain ⟨u0, h0, hf⟩ := bs hf
  obtain ⟨_, hrc⟩ := isO_n h0
  obtain ⟨u, m1, h1, hf⟩ := bs2 hf
  refine lv_aload_n hx hb dL_college_0 rfl (lv_at hl 2 rfl) ?_
  refine lv_iconst (v := 0) hx hb dL_college_1 (by decide) ?_
  refine lv_aload_n hx hb dL_college_2 rfl (lv_at hl 0 rfl) ?_
  refine lv_iload_n hx hb dL_college_3 rfl (lv_at hl 1 rfl) ?_
  rcases u with r1 | k1
  · have hf := sme_l hf
    obtain ⟨m2, h2, hf⟩ := bs hf
    cases hf
    refine am_endi hS (am_runV (As := [.int x1]) X (hml.trans hl.1.symm) hS (cX11_college_ok (l := l) (E := E) hl0 h1) mv_L_7 hrc rfl ⟨Nat.le_of_ble_eq_true rfl, Nat.le_of_ble_eq_true rfl⟩ ⟨Nat.zero_le _, Nat.zero_le _⟩ rfl rfl (Nat.le_of_ble_eq_true rfl) dL_college_4) (fun H locs hS => ?_)
    refine lv_i2l (v := r1.toInt64) hx hb dL_college_7 rfl ?_
    refine am_lst X hS h2 dL_college_8 (fun H locs hS => ?_)
    refine lv_goto (tgt := 15) hx hb dL_college_9 (by decide) ?_
    refine lv_iconst (v := 0) hx hb dL_college_15 (by decide) ?_
    refine W.widen (k := 1) (n := 6) (by omega) (by omega) ?_
    exact vx_ret (am_riG X hS hr rfl dL_college_16 hlocks)
  · have hf := sme_r hf
    obtain ⟨z, h3, hf⟩ := bs hf
    cases hf
    obtain ⟨rfl, rfl⟩ := hcI_n h3
    refine am_thrV (As := [.int x1]) X (hml.trans hl.1.symm) hS (cX11_college_thr (l := l) (E := E) hl0 h1) mv_L_7 hrc rfl ⟨Nat.le_of_ble_eq_true rfl, Nat.le_of_ble_eq_true rfl⟩ ⟨Nat.le_of_ble_eq_true rfl, Nat.le_of_ble_eq_true rfl⟩ rfl rfl (Nat.le_of_ble_eq_true rfl) dL_college_4 (fun H locs ce q9 hS a1 a2 a3 => ?_)
    refine vx_catch (own := RL) (name := "java/lang/IllegalArgumentException") X.2.2.2.1 [] ⟨0, 9, 12, 13⟩ [] (by rw [htab]; rfl) (fun z hz => nomatch hz) (by decide) (by decide) (X.2.2.1 _ (inBi 557 (by decide +kernel))) (am_nw X (w := .castable (exN 1) "java/lang/IllegalArgumentException") (inNi 572 (by decide +kernel))) a1 a2 a3 ?_
    refine lv_astore_n (lv' := [(3, .ref q9), (0, .ref x0), (1, .int x1), (2, .ref x2)]) hx hb dL_college_12 rfl hl (by decide) rfl (fun ls hl => ?_)
    refine lv_iconst (v := 1) hx hb dL_college_13 (by decide) ?_
    exact vx_ret (am_riG (cells := 1) (slots := 6) X hS hr rfl dL_college_14 hlocks)
set_option maxHeartbeats 4000000 in
set_option maxRecDepth 100000 in
theorem cL_law_ok {l : Launch} {E : Ev} (hl0 : l.stackTraces = false) {x0 : Nat} {x1 : Int32} {x2 : Nat} {mm : Mem} {r : Int32} {mm1 : Mem} (hf : fL_law (eS E) x0 x1 x2 mm = some (r, mm1)) : CtH l yL_law cL_law 4 (some .int) [(0, 9, 12, 13)] 83 1897 E [.ref x0, .int x1, .ref x2] mm r mm1 := by
  refine vx_ofWH (cc := cL_law) (maxL := 4) (ret := some .int) (hh := [(0, 9, 12, 13)]) (by decide) rfl ?_
  intro p e s m args below meth c s₁ B hml hv
  obtain ⟨rfl, X, hS, hr, hlocks, htab⟩ := am_inH B hv
  refine am_entry (Nat.le_of_ble_eq_true rfl) (fun ls hl => ?_)
  have hl : lv_has ls 4 [(0, .ref x0), (1, .int x1), (2, .ref x2)] := hl
  have hx := X.1
  have hb := X.2.1
  unfold fL_law at hf
  obtain ⟨u0, h0, hf⟩ := bs hf
  obtain ⟨_, hrc⟩ := isO_n h0
  obtain ⟨u, m1, h1, hf⟩ := bs2 hf
  refine lv_aload_n hx hb dL_law_0 rfl (lv_at hl 2 rfl) ?_
  refine lv_iconst (v := 0) hx hb dL_law_1 (by decide) ?_
  refine lv_aload_n hx hb dL_law_2 rfl (lv_at hl 0 rfl) ?_
  refine lv_iload_n hx hb dL_law_3 rfl (lv_at hl 1 rfl) ?_
  rcases u with r1 | k1
  · have hf := sme_l hf
    obtain ⟨m2, h2, hf⟩ := bs hf
    cases hf
    refine am_endi hS (am_runV (As := [.int x1]) X (hml.trans hl.1.symm) hS (cX11_law_ok (l := l) (E := E) hl0 h1) mv_L_15 hrc rfl ⟨Nat.le_of_ble_eq_true rfl, Nat.le_of_ble_eq_true rfl⟩ ⟨Nat.zero_le _, Nat.zero_le _⟩ rfl rfl (Nat.le_of_ble_eq_true rfl) dL_law_4) (fun H locs hS => ?_)
    refine lv_i2l (v := r1.toInt64) hx hb dL_law_7 rfl ?_
    refine am_lst X hS h2 dL_law_8 (fun H locs hS => ?_)
    refine lv_goto (tgt := 15) hx hb dL_law_9 (by decide) ?_
    refine lv_iconst (v := 0) hx hb dL_law_15 (by decide) ?_
    refine W.widen (k := 1) (n := 6) (by omega) (by omega) ?_
    exact vx_ret (am_riG X hS hr rfl dL_law_16 hlocks)
  · have hf := sme_r hf
    obtain ⟨z, h3, hf⟩ := bs hf
    cases hf
    obtain ⟨rfl, rfl⟩ := hcI_n h3
    refine am_thrV (As := [.int x1]) X (hml.trans hl.1.symm) hS (cX11_law_thr (l := l) (E := E) hl0 h1) mv_L_15 hrc rfl ⟨Nat.le_of_ble_eq_true rfl, Nat.le_of_ble_eq_true rfl⟩ ⟨Nat.le_of_ble_eq_true rfl, Nat.le_of_ble_eq_true rfl⟩ rfl rfl (Nat.le_of_ble_eq_true rfl) dL_law_4 (fun H locs ce q9 hS a1 a2 a3 => ?_)
    refine vx_catch (own := RL) (name := "java/lang/IllegalArgumentException") X.2.2.2.1 [] ⟨0, 9, 12, 13⟩ [] (by rw [htab]; rfl) (fun z hz => nomatch hz) (by decide) (by decide) (X.2.2.1 _ (inBi 557 (by decide +kernel))) (am_nw X (w := .castable (exN 1) "java/lang/IllegalArgumentException") (inNi 572 (by decide +kernel))) a1 a2 a3 ?_
    refine lv_astore_n (lv' := [(3, .ref q9), (0, .ref x0), (1, .int x1), (2, .ref x2)]) hx hb dL_law_12 rfl hl (by decide) rfl (fun ls hl => ?_)
    refine lv_iconst (v := 1) hx hb dL_law_13 (by decide) ?_
    exact vx_ret (am_riG (cells := 1) (slots := 6) X hS hr rfl dL_law_14 hlocks)
set_option maxHeartbeats 4000000 in
set_option maxRecDepth 100000 in
theorem cL_work_ok {l : Launch} {E : Ev} (hl0 : l.stackTraces = false) {x0 : Nat} {x1 : Int32} {x2 : Nat} {mm : Mem} {r : Int32} {mm1 : Mem} (hf : fL_work (eS E) x0 x1 x2 mm = some (r, mm1)) : CtH l yL_work cL_work 4 (some .int) [(0, 9, 12, 13)] 73 1653 E [.ref x0, .int x1, .ref x2] mm r mm1 := by
  refine vx_ofWH (cc := cL_work) (maxL := 4) (ret := some .int) (hh := [(0, 9, 12, 13)]) (by decide) rfl ?_
  intro p e s m args below meth c s₁ B hml hv
  obtain ⟨rfl, X, hS, hr, hlocks, htab⟩ := am_inH B hv
  refine am_entry (Nat.le_of_ble_eq_true rfl) (fun ls hl => ?_)
  have hl : lv_has ls 4 [(0, .ref x0), (1, .int x1), (2, .ref x2)] := hl
  have hx := X.1
  have hb := X.2.1
  unfold fL_work at hf
  obtain ⟨u0, h0, hf⟩ := bs hf
  obtain ⟨_, hrc⟩ := isO_n h0
  obtain ⟨u, m1, h1, hf⟩ := bs2 hf
  refine lv_aload_n hx hb dL_work_0 rfl (lv_at hl 2 rfl) ?_
  refine lv_iconst (v := 0) hx hb dL_work_1 (by decide) ?_
  refine lv_aload_n hx hb dL_work_2 rfl (lv_at hl 0 rfl) ?_
  refine lv_iload_n hx hb dL_work_3 rfl (lv_at hl 1 rfl) ?_
  rcases u with r1 | k1
  · have hf := sme_l hf
    obtain ⟨m2, h2, hf⟩ := bs hf
    cases hf
    refine am_endi hS (am_runV (As := [.int x1]) X (hml.trans hl.1.symm) hS (cX11_work_ok (l := l) (E := E) hl0 h1) mv_L_18 hrc rfl ⟨Nat.le_of_ble_eq_true rfl, Nat.le_of_ble_eq_true rfl⟩ ⟨Nat.zero_le _, Nat.zero_le _⟩ rfl rfl (Nat.le_of_ble_eq_true rfl) dL_work_4) (fun H locs hS => ?_)
    refine lv_i2l (v := r1.toInt64) hx hb dL_work_7 rfl ?_
    refine am_lst X hS h2 dL_work_8 (fun H locs hS => ?_)
    refine lv_goto (tgt := 15) hx hb dL_work_9 (by decide) ?_
    refine lv_iconst (v := 0) hx hb dL_work_15 (by decide) ?_
    refine W.widen (k := 1) (n := 6) (by omega) (by omega) ?_
    exact vx_ret (am_riG X hS hr rfl dL_work_16 hlocks)
  · have hf := sme_r hf
    obtain ⟨z, h3, hf⟩ := bs hf
    cases hf
    obtain ⟨rfl, rfl⟩ := hcI_n h3
    refine am_thrV (As := [.int x1]) X (hml.trans hl.1.symm) hS (cX11_work_thr (l := l) (E := E) hl0 h1) mv_L_18 hrc rfl ⟨Nat.le_of_ble_eq_true rfl, Nat.le_of_ble_eq_true rfl⟩ ⟨Nat.le_of_ble_eq_true rfl, Nat.le_of_ble_eq_true rfl⟩ rfl rfl (Nat.le_of_ble_eq_true rfl) dL_work_4 (fun H locs ce q9 hS a1 a2 a3 => ?_)
    refine vx_catch (own := RL) (name := "java/lang/IllegalArgumentException") X.2.2.2.1 [] ⟨0, 9, 12, 13⟩ [] (by rw [htab]; rfl) (fun z hz => nomatch hz) (by decide) (by decide) (X.2.2.1 _ (inBi 557 (by decide +kernel))) (am_nw X (w := .castable (exN 1) "java/lang/IllegalArgumentException") (inNi 572 (by decide +kernel))) a1 a2 a3 ?_
    refine lv_astore_n (lv' := [(3, .ref q9), (0, .ref x0), (1, .int x1), (2, .ref x2)]) hx hb dL_work_12 rfl hl (by decide) rfl (fun ls hl => ?_)
    refine lv_iconst (v := 1) hx hb dL_work_13 (by decide) ?_
    exact vx_ret (am_riG (cells := 1) (slots := 6) X hS hr rfl dL_work_14 hlocks)
set_option maxHeartbeats 4000000 in
set_option maxRecDepth 100000 in
theorem cL_book_ok {l : Launch} {E : Ev} (hl0 : l.stackTraces = false) {x0 : Nat} {x1 : Int32} {x2 : Nat} {mm : Mem} {r : Int32} {mm1 : Mem} (hf : fL_book (eS E) x0 x1 x2 mm = some (r, mm1)) : CtH l yL_book cL_book 4 (some .int) [(0, 9, 12, 13)] 10 184 E [.ref x0, .int x1, .ref x2] mm r mm1 := by
  refine vx_ofWH (cc := cL_book) (maxL := 4) (ret := some .int) (hh := [(0, 9, 12, 13)]) (by decide) rfl ?_
  intro p e s m args below meth c s₁ B hml hv
  obtain ⟨rfl, X, hS, hr, hlocks, htab⟩ := am_inH B hv
  refine am_entry (Nat.le_of_ble_eq_true rfl) (fun ls hl => ?_)
  have hl : lv_has ls 4 [(0, .ref x0), (1, .int x1), (2, .ref x2)] := hl
  have hx := X.1
  have hb := X.2.1
  unfold fL_book at hf
  obtain ⟨u0, h0, hf⟩ := bs hf
  obtain ⟨_, hrc⟩ := isO_n h0
  obtain ⟨u, m1, h1, hf⟩ := bs2 hf
  refine lv_aload_n hx hb dL_book_0 rfl (lv_at hl 2 rfl) ?_
  refine lv_iconst (v := 0) hx hb dL_book_1 (by decide) ?_
  refine lv_aload_n hx hb dL_book_2 rfl (lv_at hl 0 rfl) ?_
  refine lv_iload_n hx hb dL_book_3 rfl (lv_at hl 1 rfl) ?_
  rcases u with r1 | k1
  · have hf := sme_l hf
    obtain ⟨m2, h2, hf⟩ := bs hf
    cases hf
    refine am_endi hS (am_runV (As := [.int x1]) X (hml.trans hl.1.symm) hS (cX11_book_ok (l := l) (E := E) hl0 h1) mv_L_21 hrc rfl ⟨Nat.le_of_ble_eq_true rfl, Nat.le_of_ble_eq_true rfl⟩ ⟨Nat.zero_le _, Nat.zero_le _⟩ rfl rfl (Nat.le_of_ble_eq_true rfl) dL_book_4) (fun H locs hS => ?_)
    refine lv_i2l (v := r1.toInt64) hx hb dL_book_7 rfl ?_
    refine am_lst X hS h2 dL_book_8 (fun H locs hS => ?_)
    refine lv_goto (tgt := 15) hx hb dL_book_9 (by decide) ?_
    refine lv_iconst (v := 0) hx hb dL_book_15 (by decide) ?_
    refine W.widen (k := 1) (n := 6) (by omega) (by omega) ?_
    exact vx_ret (am_riG X hS hr rfl dL_book_16 hlocks)
  · have hf := sme_r hf
    obtain ⟨z, h3, hf⟩ := bs hf
    cases hf
    obtain ⟨rfl, rfl⟩ := hcI_n h3
    refine am_thrV (As := [.int x1]) X (hml.trans hl.1.symm) hS (cX11_book_thr (l := l) (E := E) hl0 h1) mv_L_21 hrc rfl ⟨Nat.le_of_ble_eq_true rfl, Nat.le_of_ble_eq_true rfl⟩ ⟨Nat.le_of_ble_eq_true rfl, Nat.le_of_ble_eq_true rfl⟩ rfl rfl (Nat.le_of_ble_eq_true rfl) dL_book_4 (fun H locs ce q9 hS a1 a2 a3 => ?_)
    refine vx_catch (own := RL) (name := "java/lang/IllegalArgumentException") X.2.2.2.1 [] ⟨0, 9, 12, 13⟩ [] (by rw [htab]; rfl) (fun z hz => nomatch hz) (by decide) (by decide) (X.2.2.1 _ (inBi 557 (by decide +kernel))) (am_nw X (w := .castable (exN 1) "java/lang/IllegalArgumentException") (inNi 572 (by decide +kernel))) a1 a2 a3 ?_
    refine lv_astore_n (lv' := [(3, .ref q9), (0, .ref x0), (1, .int x1), (2, .ref x2)]) hx hb dL_book_12 rfl hl (by decide) rfl (fun ls hl => ?_)
    refine lv_iconst (v := 1) hx hb dL_book_13 (by decide) ?_
    exact vx_ret (am_riG (cells := 1) (slots := 6) X hS hr rfl dL_book_14 hlocks)
set_option maxHeartbeats 4000000 in
set_option maxRecDepth 100000 in
theorem cL_told_ok {l : Launch} {E : Ev} (hl0 : l.stackTraces = false) {x0 : Nat} {x1 : Int32} {x2 : Nat} {mm : Mem} {r : Int32} {mm1 : Mem} (hf : fL_told (eS E) x0 x1 x2 mm = some (r, mm1)) : CtH l yL_told cL_told 4 (some .int) [(0, 9, 12, 13)] 9 162 E [.ref x0, .int x1, .ref x2] mm r mm1 := by
  refine vx_ofWH (cc := cL_told) (maxL := 4) (ret := some .int) (hh := [(0, 9, 12, 13)]) (by decide) rfl ?_
  intro p e s m args below meth c s₁ B hml hv
  obtain ⟨rfl, X, hS, hr, hlocks, htab⟩ := am_inH B hv
  refine am_entry (Nat.le_of_ble_eq_true rfl) (fun ls hl => ?_)
  have hl : lv_has ls 4 [(0, .ref x0), (1, .int x1), (2, .ref x2)] := hl
  have hx := X.1
  have hb := X.2.1
  unfold fL_told at hf
  obtain ⟨u0, h0, hf⟩ := bs hf
  obtain ⟨_, hrc⟩ := isO_n h0
  obtain ⟨u, m1, h1, hf⟩ := bs2 hf
  refine lv_aload_n hx hb dL_told_0 rfl (lv_at hl 2 rfl) ?_
  refine lv_iconst (v := 0) hx hb dL_told_1 (by decide) ?_
  refine lv_aload_n hx hb dL_told_2 rfl (lv_at hl 0 rfl) ?_
  refine lv_iload_n hx hb dL_told_3 rfl (lv_at hl 1 rfl) ?_
  rcases u with r1 | k1
  · have hf := sme_l hf
    obtain ⟨m2, h2, hf⟩ := bs hf
    cases hf
    refine am_endi hS (am_runV (As := [.int x1]) X (hml.trans hl.1.symm) hS (cX11_told_ok (l := l) (E := E) hl0 h1) mv_L_24 hrc rfl ⟨Nat.le_of_ble_eq_true rfl, Nat.le_of_ble_eq_true rfl⟩ ⟨Nat.zero_le _, Nat.zero_le _⟩ rfl rfl (Nat.le_of_ble_eq_true rfl) dL_told_4) (fun H locs hS => ?_)
    refine lv_i2l (v := r1.toInt64) hx hb dL_told_7 rfl ?_
    refine am_lst X hS h2 dL_told_8 (fun H locs hS => ?_)
    refine lv_goto (tgt := 15) hx hb dL_told_9 (by decide) ?_
    refine lv_iconst (v := 0) hx hb dL_told_15 (by decide) ?_
    refine W.widen (k := 1) (n := 6) (by omega) (by omega) ?_
    exact vx_ret (am_riG X hS hr rfl dL_told_16 hlocks)
  · have hf := sme_r hf
    obtain ⟨z, h3, hf⟩ := bs hf
    cases hf
    obtain ⟨rfl, rfl⟩ := hcI_n h3
    refine am_thrV (As := [.int x1]) X (hml.trans hl.1.symm) hS (cX11_told_thr (l := l) (E := E) hl0 h1) mv_L_24 hrc rfl ⟨Nat.le_of_ble_eq_true rfl, Nat.le_of_ble_eq_true rfl⟩ ⟨Nat.le_of_ble_eq_true rfl, Nat.le_of_ble_eq_true rfl⟩ rfl rfl (Nat.le_of_ble_eq_true rfl) dL_told_4 (fun H locs ce q9 hS a1 a2 a3 => ?_)
    refine vx_catch (own := RL) (name := "java/lang/IllegalArgumentException") X.2.2.2.1 [] ⟨0, 9, 12, 13⟩ [] (by rw [htab]; rfl) (fun z hz => nomatch hz) (by decide) (by decide) (X.2.2.1 _ (inBi 557 (by decide +kernel))) (am_nw X (w := .castable (exN 1) "java/lang/IllegalArgumentException") (inNi 572 (by decide +kernel))) a1 a2 a3 ?_
    refine lv_astore_n (lv' := [(3, .ref q9), (0, .ref x0), (1, .int x1), (2, .ref x2)]) hx hb dL_told_12 rfl hl (by decide) rfl (fun ls hl => ?_)
    refine lv_iconst (v := 1) hx hb dL_told_13 (by decide) ?_
    exact vx_ret (am_riG (cells := 1) (slots := 6) X hS hr rfl dL_told_14 hlocks)
set_option maxHeartbeats 4000000 in
set_option maxRecDepth 100000 in
theorem cL_fellow_ok {l : Launch} {E : Ev} (hl0 : l.stackTraces = false) {x0 : Nat} {x1 : Int32} {x2 : Int32} {x3 : Nat} {mm : Mem} {r : Int32} {mm1 : Mem} (hf : fL_fellow (eS E) x0 x1 x2 x3 mm = some (r, mm1)) : CtH l yL_fellow cL_fellow 5 (some .int) [(0, 10, 13, 31), (0, 10, 17, 13)] 9 164 E [.ref x0, .int x1, .int x2, .ref x3] mm r mm1 := by
  refine vx_ofWH (cc := cL_fellow) (maxL := 5) (ret := some .int) (hh := [(0, 10, 13, 31), (0, 10, 17, 13)]) (by decide) rfl ?_
  intro p e s m args below meth c s₁ B hml hv
  obtain ⟨rfl, X, hS, hr, hlocks, htab⟩ := am_inH B hv
  refine am_entry (Nat.le_of_ble_eq_true rfl) (fun ls hl => ?_)
  have hl : lv_has ls 5 [(0, .ref x0), (1, .int x1), (2, .int x2), (3, .ref x3)] := hl
  have hx := X.1
  have hb := X.2.1
  unfold fL_fellow at hf
  obtain ⟨u0, h0, hf⟩ := bs hf
  obtain ⟨_, hrc⟩ := isO_n h0
  obtain ⟨u, m1, h1, hf⟩ := bs2 hf
  refine lv_aload_n hx hb dL_fellow_0 rfl (lv_at hl 3 rfl) ?_
  refine lv_iconst (v := 0) hx hb dL_fellow_1 (by decide) ?_
  refine lv_aload_n hx hb dL_fellow_2 rfl (lv_at hl 0 rfl) ?_
  refine lv_iload_n hx hb dL_fellow_3 rfl (lv_at hl 1 rfl) ?_
  refine lv_iload_n hx hb dL_fellow_4 rfl (lv_at hl 2 rfl) ?_
  rcases u with r1 | k1
  · have hf := sme_l hf
    obtain ⟨m2, h2, hf⟩ := bs hf
    cases hf
    refine am_endi hS (am_runV (As := [.int x1, .int x2]) X (hml.trans hl.1.symm) hS (cX11_fellow_ok (l := l) (E := E) hl0 h1) mv_L_27 hrc rfl ⟨Nat.le_of_ble_eq_true rfl, Nat.le_of_ble_eq_true rfl⟩ ⟨Nat.zero_le _, Nat.zero_le _⟩ rfl rfl (Nat.le_of_ble_eq_true rfl) dL_fellow_5) (fun H locs hS => ?_)
    refine lv_i2l (v := r1.toInt64) hx hb dL_fellow_8 rfl ?_
    refine am_lst X hS h2 dL_fellow_9 (fun H locs hS => ?_)
    refine lv_goto (tgt := 21) hx hb dL_fellow_10 (by decide) ?_
    refine lv_iconst (v := 0) hx hb dL_fellow_21 (by decide) ?_
    refine W.widen (k := 1) (n := 6) (by omega) (by omega) ?_
    exact vx_ret (am_riG X hS hr rfl dL_fellow_22 hlocks)
  · have hf := sme_r hf
    obtain ⟨z, h3, hf⟩ := bs hf
    cases hf
    rcases hcB_n h3 with ⟨rfl, rfl⟩ | ⟨rfl, rfl⟩
    · refine am_thrV (As := [.int x1, .int x2]) X (hml.trans hl.1.symm) hS (cX11_fellow_thr (l := l) (E := E) hl0 h1) mv_L_27 hrc rfl ⟨Nat.le_of_ble_eq_true rfl, Nat.le_of_ble_eq_true rfl⟩ ⟨Nat.le_of_ble_eq_true rfl, Nat.le_of_ble_eq_true rfl⟩ rfl rfl (Nat.le_of_ble_eq_true rfl) dL_fellow_5 (fun H locs ce q9 hS a1 a2 a3 => ?_)
      refine vx_catch (own := RL) (name := "java/util/NoSuchElementException") X.2.2.2.1 [] ⟨0, 10, 13, 31⟩ [⟨0, 10, 17, 13⟩] (by rw [htab]; rfl) (fun z hz => nomatch hz) (by decide) (by decide) (X.2.2.1 _ (inBi 974 (by decide +kernel))) (am_nw X (w := .castable (exN 0) "java/util/NoSuchElementException") (inNi 989 (by decide +kernel))) a1 a2 a3 ?_
      refine lv_astore (lv' := [(4, .ref q9), (0, .ref x0), (1, .int x1), (2, .int x2), (3, .ref x3)]) hx hb dL_fellow_13 hl (by decide) rfl (fun ls hl => ?_)
      refine lv_iconst (v := 1) hx hb dL_fellow_15 (by decide) ?_
      exact vx_ret (am_riG (cells := 1) (slots := 6) X hS hr rfl dL_fellow_16 hlocks)
    · refine am_thrV (As := [.int x1, .int x2]) X (hml.trans hl.1.symm) hS (cX11_fellow_thr (l := l) (E := E) hl0 h1) mv_L_27 hrc rfl ⟨Nat.le_of_ble_eq_true rfl, Nat.le_of_ble_eq_true rfl⟩ ⟨Nat.le_of_ble_eq_true rfl, Nat.le_of_ble_eq_true rfl⟩ rfl rfl (Nat.le_of_ble_eq_true rfl) dL_fellow_5 (fun H locs ce q9 hS a1 a2 a3 => ?_)
      refine vx_catch (own := RL) (name := "java/lang/IllegalArgumentException") X.2.2.2.1 [⟨0, 10, 13, 31⟩] ⟨0, 10, 17, 13⟩ [] (by rw [htab]; rfl) (fun z hz => by cases List.mem_singleton.mp hz; exact Or.inr ⟨by decide, "java/util/NoSuchElementException", X.2.2.1 _ (inBi 974 (by decide +kernel)), X.2.2.2.2.1.2.2.2.2.2.2.2.2.2.2.2⟩) (by decide) (by decide) (X.2.2.1 _ (inBi 557 (by decide +kernel))) (am_nw X (w := .castable (exN 1) "java/lang/IllegalArgumentException") (inNi 572 (by decide +kernel))) a1 a2 a3 ?_
      refine lv_astore (lv' := [(4, .ref q9), (0, .ref x0), (1, .int x1), (2, .int x2), (3, .ref x3)]) hx hb dL_fellow_17 hl (by decide) rfl (fun ls hl => ?_)
      refine lv_iconst (v := 2) hx hb dL_fellow_19 (by decide) ?_
      exact vx_ret (am_riG (cells := 1) (slots := 6) X hS hr rfl dL_fellow_20 hlocks)
set_option maxHeartbeats 4000000 in
set_option maxRecDepth 100000 in
theorem cL_part_ok {l : Launch} {E : Ev} (hl0 : l.stackTraces = false) {x0 : Nat} {x1 : Int32} {x2 : Int32} {x3 : Int32} {x4 : Nat} {mm : Mem} {r : Int32} {mm1 : Mem} (hf : fL_part (eS E) x0 x1 x2 x3 x4 mm = some (r, mm1)) : CtH l yL_part cL_part 6 (some .int) [(0, 12, 15, 31), (0, 12, 19, 13)] 9 165 E [.ref x0, .int x1, .int x2, .int x3, .ref x4] mm r mm1 := by
  refine vx_ofWH (cc := cL_part) (maxL := 6) (ret := some .int) (hh := [(0, 12, 15, 31), (0, 12, 19, 13)]) (by decide) rfl ?_
  intro p e s m args below meth c s₁ B hml hv
  obtain ⟨rfl, X, hS, hr, hlocks, htab⟩ := am_inH B hv
  refine am_entry (Nat.le_of_ble_eq_true rfl) (fun ls hl => ?_)
  have hl : lv_has ls 6 [(0, .ref x0), (1, .int x1), (2, .int x2), (3, .int x3), (4, .ref x4)] := hl
  have hx := X.1
  have hb := X.2.1
  unfold fL_part at hf
  obtain ⟨u0, h0, hf⟩ := bs hf
  obtain ⟨_, hrc⟩ := isO_n h0
  obtain ⟨u, m1, h1, hf⟩ := bs2 hf
  refine lv_aload hx hb dL_part_0 (lv_at hl 4 rfl) ?_
  refine lv_iconst (v := 0) hx hb dL_part_2 (by decide) ?_
  refine lv_aload_n hx hb dL_part_3 rfl (lv_at hl 0 rfl) ?_
  refine lv_iload_n hx hb dL_part_4 rfl (lv_at hl 1 rfl) ?_
  refine lv_iload_n hx hb dL_part_5 rfl (lv_at hl 2 rfl) ?_
  refine lv_iload_n hx hb dL_part_6 rfl (lv_at hl 3 rfl) ?_
  rcases u with r1 | k1
  · have hf := sme_l hf
    obtain ⟨m2, h2, hf⟩ := bs hf
    cases hf
    refine am_endi hS (am_runV (As := [.int x1, .int x2, .int x3]) X (hml.trans hl.1.symm) hS (cX11_part_ok (l := l) (E := E) hl0 h1) mv_L_33 hrc rfl ⟨Nat.le_of_ble_eq_true rfl, Nat.le_of_ble_eq_true rfl⟩ ⟨Nat.zero_le _, Nat.zero_le _⟩ rfl rfl (Nat.le_of_ble_eq_true rfl) dL_part_7) (fun H locs hS => ?_)
    refine lv_i2l (v := r1.toInt64) hx hb dL_part_10 rfl ?_
    refine am_lst X hS h2 dL_part_11 (fun H locs hS => ?_)
    refine lv_goto (tgt := 23) hx hb dL_part_12 (by decide) ?_
    refine lv_iconst (v := 0) hx hb dL_part_23 (by decide) ?_
    refine W.widen (k := 1) (n := 6) (by omega) (by omega) ?_
    exact vx_ret (am_riG X hS hr rfl dL_part_24 hlocks)
  · have hf := sme_r hf
    obtain ⟨z, h3, hf⟩ := bs hf
    cases hf
    rcases hcB_n h3 with ⟨rfl, rfl⟩ | ⟨rfl, rfl⟩
    · refine am_thrV (As := [.int x1, .int x2, .int x3]) X (hml.trans hl.1.symm) hS (cX11_part_thr (l := l) (E := E) hl0 h1) mv_L_33 hrc rfl ⟨Nat.le_of_ble_eq_true rfl, Nat.le_of_ble_eq_true rfl⟩ ⟨Nat.le_of_ble_eq_true rfl, Nat.le_of_ble_eq_true rfl⟩ rfl rfl (Nat.le_of_ble_eq_true rfl) dL_part_7 (fun H locs ce q9 hS a1 a2 a3 => ?_)
      refine vx_catch (own := RL) (name := "java/util/NoSuchElementException") X.2.2.2.1 [] ⟨0, 12, 15, 31⟩ [⟨0, 12, 19, 13⟩] (by rw [htab]; rfl) (fun z hz => nomatch hz) (by decide) (by decide) (X.2.2.1 _ (inBi 974 (by decide +kernel))) (am_nw X (w := .castable (exN 0) "java/util/NoSuchElementException") (inNi 989 (by decide +kernel))) a1 a2 a3 ?_
      refine lv_astore (lv' := [(5, .ref q9), (0, .ref x0), (1, .int x1), (2, .int x2), (3, .int x3), (4, .ref x4)]) hx hb dL_part_15 hl (by decide) rfl (fun ls hl => ?_)
      refine lv_iconst (v := 1) hx hb dL_part_17 (by decide) ?_
      exact vx_ret (am_riG (cells := 1) (slots := 6) X hS hr rfl dL_part_18 hlocks)
    · refine am_thrV (As := [.int x1, .int x2, .int x3]) X (hml.trans hl.1.symm) hS (cX11_part_thr (l := l) (E := E) hl0 h1) mv_L_33 hrc rfl ⟨Nat.le_of_ble_eq_true rfl, Nat.le_of_ble_eq_true rfl⟩ ⟨Nat.le_of_ble_eq_true rfl, Nat.le_of_ble_eq_true rfl⟩ rfl rfl (Nat.le_of_ble_eq_true rfl) dL_part_7 (fun H locs ce q9 hS a1 a2 a3 => ?_)
      refine vx_catch (own := RL) (name := "java/lang/IllegalArgumentException") X.2.2.2.1 [⟨0, 12, 15, 31⟩] ⟨0, 12, 19, 13⟩ [] (by rw [htab]; rfl) (fun z hz => by cases List.mem_singleton.mp hz; exact Or.inr ⟨by decide, "java/util/NoSuchElementException", X.2.2.1 _ (inBi 974 (by decide +kernel)), X.2.2.2.2.1.2.2.2.2.2.2.2.2.2.2.2⟩) (by decide) (by decide) (X.2.2.1 _ (inBi 557 (by decide +kernel))) (am_nw X (w := .castable (exN 1) "java/lang/IllegalArgumentException") (inNi 572 (by decide +kernel))) a1 a2 a3 ?_
      refine lv_astore (lv' := [(5, .ref q9), (0, .ref x0), (1, .int x1), (2, .int x2), (3, .int x3), (4, .ref x4)]) hx hb dL_part_19 hl (by decide) rfl (fun ls hl => ?_)
      refine lv_iconst (v := 2) hx hb dL_part_21 (by decide) ?_
      exact vx_ret (am_riG (cells := 1) (slots := 6) X hS hr rfl dL_part_22 hlocks)
set_option maxHeartbeats 4000000 in
set_option maxRecDepth 100000 in
theorem cL_glass_ok {l : Launch} {E : Ev} (hl0 : l.stackTraces = false) {x0 : Nat} {x1 : Int32} {x2 : Int32} {x3 : Nat} {mm : Mem} {r : Int32} {mm1 : Mem} (hf : fL_glass (eS E) x0 x1 x2 x3 mm = some (r, mm1)) : CtH l yL_glass cL_glass 5 (some .int) [(0, 10, 13, 31), (0, 10, 17, 13)] 9 163 E [.ref x0, .int x1, .int x2, .ref x3] mm r mm1 := by
  refine vx_ofWH (cc := cL_glass) (maxL := 5) (ret := some .int) (hh := [(0, 10, 13, 31), (0, 10, 17, 13)]) (by decide) rfl ?_
  intro p e s m args below meth c s₁ B hml hv
  obtain ⟨rfl, X, hS, hr, hlocks, htab⟩ := am_inH B hv
  refine am_entry (Nat.le_of_ble_eq_true rfl) (fun ls hl => ?_)
  have hl : lv_has ls 5 [(0, .ref x0), (1, .int x1), (2, .int x2), (3, .ref x3)] := hl
  have hx := X.1
  have hb := X.2.1
  unfold fL_glass at hf
  obtain ⟨u0, h0, hf⟩ := bs hf
  obtain ⟨_, hrc⟩ := isO_n h0
  obtain ⟨u, m1, h1, hf⟩ := bs2 hf
  refine lv_aload_n hx hb dL_glass_0 rfl (lv_at hl 3 rfl) ?_
  refine lv_iconst (v := 0) hx hb dL_glass_1 (by decide) ?_
  refine lv_aload_n hx hb dL_glass_2 rfl (lv_at hl 0 rfl) ?_
  refine lv_iload_n hx hb dL_glass_3 rfl (lv_at hl 1 rfl) ?_
  refine lv_iload_n hx hb dL_glass_4 rfl (lv_at hl 2 rfl) ?_
  rcases u with r1 | k1
  · have hf := sme_l hf
    obtain ⟨m2, h2, hf⟩ := bs hf
    cases hf
    refine am_endi hS (am_runV (As := [.int x1, .int x2]) X (hml.trans hl.1.symm) hS (cX11_glass_ok (l := l) (E := E) hl0 h1) mv_L_37 hrc rfl ⟨Nat.le_of_ble_eq_true rfl, Nat.le_of_ble_eq_true rfl⟩ ⟨Nat.zero_le _, Nat.zero_le _⟩ rfl rfl (Nat.le_of_ble_eq_true rfl) dL_glass_5) (fun H locs hS => ?_)
    refine lv_i2l (v := r1.toInt64) hx hb dL_glass_8 rfl ?_
    refine am_lst X hS h2 dL_glass_9 (fun H locs hS => ?_)
    refine lv_goto (tgt := 21) hx hb dL_glass_10 (by decide) ?_
    refine lv_iconst (v := 0) hx hb dL_glass_21 (by decide) ?_
    refine W.widen (k := 1) (n := 6) (by omega) (by omega) ?_
    exact vx_ret (am_riG X hS hr rfl dL_glass_22 hlocks)
  · have hf := sme_r hf
    obtain ⟨z, h3, hf⟩ := bs hf
    cases hf
    rcases hcB_n h3 with ⟨rfl, rfl⟩ | ⟨rfl, rfl⟩
    · refine am_thrV (As := [.int x1, .int x2]) X (hml.trans hl.1.symm) hS (cX11_glass_thr (l := l) (E := E) hl0 h1) mv_L_37 hrc rfl ⟨Nat.le_of_ble_eq_true rfl, Nat.le_of_ble_eq_true rfl⟩ ⟨Nat.le_of_ble_eq_true rfl, Nat.le_of_ble_eq_true rfl⟩ rfl rfl (Nat.le_of_ble_eq_true rfl) dL_glass_5 (fun H locs ce q9 hS a1 a2 a3 => ?_)
      refine vx_catch (own := RL) (name := "java/util/NoSuchElementException") X.2.2.2.1 [] ⟨0, 10, 13, 31⟩ [⟨0, 10, 17, 13⟩] (by rw [htab]; rfl) (fun z hz => nomatch hz) (by decide) (by decide) (X.2.2.1 _ (inBi 974 (by decide +kernel))) (am_nw X (w := .castable (exN 0) "java/util/NoSuchElementException") (inNi 989 (by decide +kernel))) a1 a2 a3 ?_
      refine lv_astore (lv' := [(4, .ref q9), (0, .ref x0), (1, .int x1), (2, .int x2), (3, .ref x3)]) hx hb dL_glass_13 hl (by decide) rfl (fun ls hl => ?_)
      refine lv_iconst (v := 1) hx hb dL_glass_15 (by decide) ?_
      exact vx_ret (am_riG (cells := 1) (slots := 6) X hS hr rfl dL_glass_16 hlocks)
    · refine am_thrV (As := [.int x1, .int x2]) X (hml.trans hl.1.symm) hS (cX11_glass_thr (l := l) (E := E) hl0 h1) mv_L_37 hrc rfl ⟨Nat.le_of_ble_eq_true rfl, Nat.le_of_ble_eq_true rfl⟩ ⟨Nat.le_of_ble_eq_true rfl, Nat.le_of_ble_eq_true rfl⟩ rfl rfl (Nat.le_of_ble_eq_true rfl) dL_glass_5 (fun H locs ce q9 hS a1 a2 a3 => ?_)
      refine vx_catch (own := RL) (name := "java/lang/IllegalArgumentException") X.2.2.2.1 [⟨0, 10, 13, 31⟩] ⟨0, 10, 17, 13⟩ [] (by rw [htab]; rfl) (fun z hz => by cases List.mem_singleton.mp hz; exact Or.inr ⟨by decide, "java/util/NoSuchElementException", X.2.2.1 _ (inBi 974 (by decide +kernel)), X.2.2.2.2.1.2.2.2.2.2.2.2.2.2.2.2⟩) (by decide) (by decide) (X.2.2.1 _ (inBi 557 (by decide +kernel))) (am_nw X (w := .castable (exN 1) "java/lang/IllegalArgumentException") (inNi 572 (by decide +kernel))) a1 a2 a3 ?_
      refine lv_astore (lv' := [(4, .ref q9), (0, .ref x0), (1, .int x1), (2, .int x2), (3, .ref x3)]) hx hb dL_glass_17 hl (by decide) rfl (fun ls hl => ?_)
      refine lv_iconst (v := 2) hx hb dL_glass_19 (by decide) ?_
      exact vx_ret (am_riG (cells := 1) (slots := 6) X hS hr rfl dL_glass_20 hlocks)
set_option maxHeartbeats 4000000 in
set_option maxRecDepth 100000 in
theorem cL_place_ok {l : Launch} {E : Ev} (hl0 : l.stackTraces = false) {x0 : Nat} {x1 : Int32} {x2 : Nat} {mm : Mem} {r : Int32} {mm1 : Mem} (hf : fL_place (eS E) x0 x1 x2 mm = some (r, mm1)) : CtH l yL_place cL_place 4 (some .int) [(0, 9, 12, 13)] 9 162 E [.ref x0, .int x1, .ref x2] mm r mm1 := by
  refine vx_ofWH (cc := cL_place) (maxL := 4) (ret := some .int) (hh := [(0, 9, 12, 13)]) (by decide) rfl ?_
  intro p e s m args below meth c s₁ B hml hv
  obtain ⟨rfl, X, hS, hr, hlocks, htab⟩ := am_inH B hv
  refine am_entry (Nat.le_of_ble_eq_true rfl) (fun ls hl => ?_)
  have hl : lv_has ls 4 [(0, .ref x0), (1, .int x1), (2, .ref x2)] := hl
  have hx := X.1
  have hb := X.2.1
  unfold fL_place at hf
  obtain ⟨u0, h0, hf⟩ := bs hf
  obtain ⟨_, hrc⟩ := isO_n h0
  obtain ⟨u, m1, h1, hf⟩ := bs2 hf
  refine lv_aload_n hx hb dL_place_0 rfl (lv_at hl 2 rfl) ?_
  refine lv_iconst (v := 0) hx hb dL_place_1 (by decide) ?_
  refine lv_aload_n hx hb dL_place_2 rfl (lv_at hl 0 rfl) ?_
  refine lv_iload_n hx hb dL_place_3 rfl (lv_at hl 1 rfl) ?_
  rcases u with r1 | k1
  · have hf := sme_l hf
    obtain ⟨m2, h2, hf⟩ := bs hf
    cases hf
    refine am_endi hS (am_runV (As := [.int x1]) X (hml.trans hl.1.symm) hS (cX11_place_ok (l := l) (E := E) hl0 h1) mv_L_40 hrc rfl ⟨Nat.le_of_ble_eq_true rfl, Nat.le_of_ble_eq_true rfl⟩ ⟨Nat.zero_le _, Nat.zero_le _⟩ rfl rfl (Nat.le_of_ble_eq_true rfl) dL_place_4) (fun H locs hS => ?_)
    refine lv_i2l (v := r1.toInt64) hx hb dL_place_7 rfl ?_
    refine am_lst X hS h2 dL_place_8 (fun H locs hS => ?_)
    refine lv_goto (tgt := 15) hx hb dL_place_9 (by decide) ?_
    refine lv_iconst (v := 0) hx hb dL_place_15 (by decide) ?_
    refine W.widen (k := 1) (n := 6) (by omega) (by omega) ?_
    exact vx_ret (am_riG X hS hr rfl dL_place_16 hlocks)
  · have hf := sme_r hf
    obtain ⟨z, h3, hf⟩ := bs hf
    cases hf
    obtain ⟨rfl, rfl⟩ := hcI_n h3
    refine am_thrV (As := [.int x1]) X (hml.trans hl.1.symm) hS (cX11_place_thr (l := l) (E := E) hl0 h1) mv_L_40 hrc rfl ⟨Nat.le_of_ble_eq_true rfl, Nat.le_of_ble_eq_true rfl⟩ ⟨Nat.le_of_ble_eq_true rfl, Nat.le_of_ble_eq_true rfl⟩ rfl rfl (Nat.le_of_ble_eq_true rfl) dL_place_4 (fun H locs ce q9 hS a1 a2 a3 => ?_)
    refine vx_catch (own := RL) (name := "java/lang/IllegalArgumentException") X.2.2.2.1 [] ⟨0, 9, 12, 13⟩ [] (by rw [htab]; rfl) (fun z hz => nomatch hz) (by decide) (by decide) (X.2.2.1 _ (inBi 557 (by decide +kernel))) (am_nw X (w := .castable (exN 1) "java/lang/IllegalArgumentException") (inNi 572 (by decide +kernel))) a1 a2 a3 ?_
    refine lv_astore_n (lv' := [(3, .ref q9), (0, .ref x0), (1, .int x1), (2, .ref x2)]) hx hb dL_place_12 rfl hl (by decide) rfl (fun ls hl => ?_)
    refine lv_iconst (v := 1) hx hb dL_place_13 (by decide) ?_
    exact vx_ret (am_riG (cells := 1) (slots := 6) X hS hr rfl dL_place_14 hlocks)
set_option maxHeartbeats 4000000 in
set_option maxRecDepth 100000 in
theorem cL_turn_ok {l : Launch} {E : Ev} (hl0 : l.stackTraces = false) {x0 : Nat} {x1 : Int32} {x2 : Int32} {x3 : Int32} {x4 : Nat} {mm : Mem} {r : Int32} {mm1 : Mem} (hf : fL_turn (eS E) x0 x1 x2 x3 x4 mm = some (r, mm1)) : CtH l yL_turn cL_turn 6 (some .int) [(0, 12, 15, 31), (0, 12, 19, 13)] 9 164 E [.ref x0, .int x1, .int x2, .int x3, .ref x4] mm r mm1 := by
  refine vx_ofWH (cc := cL_turn) (maxL := 6) (ret := some .int) (hh := [(0, 12, 15, 31), (0, 12, 19, 13)]) (by decide) rfl ?_
  intro p e s m args below meth c s₁ B hml hv
  obtain ⟨rfl, X, hS, hr, hlocks, htab⟩ := am_inH B hv
  refine am_entry (Nat.le_of_ble_eq_true rfl) (fun ls hl => ?_)
  have hl : lv_has ls 6 [(0, .ref x0), (1, .int x1), (2, .int x2), (3, .int x3), (4, .ref x4)] := hl
  have hx := X.1
  have hb := X.2.1
  unfold fL_turn at hf
  obtain ⟨u0, h0, hf⟩ := bs hf
  obtain ⟨_, hrc⟩ := isO_n h0
  obtain ⟨u, m1, h1, hf⟩ := bs2 hf
  refine lv_aload hx hb dL_turn_0 (lv_at hl 4 rfl) ?_
  refine lv_iconst (v := 0) hx hb dL_turn_2 (by decide) ?_
  refine lv_aload_n hx hb dL_turn_3 rfl (lv_at hl 0 rfl) ?_
  refine lv_iload_n hx hb dL_turn_4 rfl (lv_at hl 1 rfl) ?_
  refine lv_iload_n hx hb dL_turn_5 rfl (lv_at hl 2 rfl) ?_
  refine lv_iload_n hx hb dL_turn_6 rfl (lv_at hl 3 rfl) ?_
  rcases u with r1 | k1
  · have hf := sme_l hf
    obtain ⟨m2, h2, hf⟩ := bs hf
    cases hf
    refine am_endi hS (am_runV (As := [.int x1, .int x2, .int x3]) X (hml.trans hl.1.symm) hS (cX11_turn_ok (l := l) (E := E) hl0 h1) mv_L_43 hrc rfl ⟨Nat.le_of_ble_eq_true rfl, Nat.le_of_ble_eq_true rfl⟩ ⟨Nat.zero_le _, Nat.zero_le _⟩ rfl rfl (Nat.le_of_ble_eq_true rfl) dL_turn_7) (fun H locs hS => ?_)
    refine lv_i2l (v := r1.toInt64) hx hb dL_turn_10 rfl ?_
    refine am_lst X hS h2 dL_turn_11 (fun H locs hS => ?_)
    refine lv_goto (tgt := 23) hx hb dL_turn_12 (by decide) ?_
    refine lv_iconst (v := 0) hx hb dL_turn_23 (by decide) ?_
    refine W.widen (k := 1) (n := 6) (by omega) (by omega) ?_
    exact vx_ret (am_riG X hS hr rfl dL_turn_24 hlocks)
  · have hf := sme_r hf
    obtain ⟨z, h3, hf⟩ := bs hf
    cases hf
    rcases hcB_n h3 with ⟨rfl, rfl⟩ | ⟨rfl, rfl⟩
    · refine am_thrV (As := [.int x1, .int x2, .int x3]) X (hml.trans hl.1.symm) hS (cX11_turn_thr (l := l) (E := E) hl0 h1) mv_L_43 hrc rfl ⟨Nat.le_of_ble_eq_true rfl, Nat.le_of_ble_eq_true rfl⟩ ⟨Nat.le_of_ble_eq_true rfl, Nat.le_of_ble_eq_true rfl⟩ rfl rfl (Nat.le_of_ble_eq_true rfl) dL_turn_7 (fun H locs ce q9 hS a1 a2 a3 => ?_)
      refine vx_catch (own := RL) (name := "java/util/NoSuchElementException") X.2.2.2.1 [] ⟨0, 12, 15, 31⟩ [⟨0, 12, 19, 13⟩] (by rw [htab]; rfl) (fun z hz => nomatch hz) (by decide) (by decide) (X.2.2.1 _ (inBi 974 (by decide +kernel))) (am_nw X (w := .castable (exN 0) "java/util/NoSuchElementException") (inNi 989 (by decide +kernel))) a1 a2 a3 ?_
      refine lv_astore (lv' := [(5, .ref q9), (0, .ref x0), (1, .int x1), (2, .int x2), (3, .int x3), (4, .ref x4)]) hx hb dL_turn_15 hl (by decide) rfl (fun ls hl => ?_)
      refine lv_iconst (v := 1) hx hb dL_turn_17 (by decide) ?_
      exact vx_ret (am_riG (cells := 1) (slots := 6) X hS hr rfl dL_turn_18 hlocks)
    · refine am_thrV (As := [.int x1, .int x2, .int x3]) X (hml.trans hl.1.symm) hS (cX11_turn_thr (l := l) (E := E) hl0 h1) mv_L_43 hrc rfl ⟨Nat.le_of_ble_eq_true rfl, Nat.le_of_ble_eq_true rfl⟩ ⟨Nat.le_of_ble_eq_true rfl, Nat.le_of_ble_eq_true rfl⟩ rfl rfl (Nat.le_of_ble_eq_true rfl) dL_turn_7 (fun H locs ce q9 hS a1 a2 a3 => ?_)
      refine vx_catch (own := RL) (name := "java/lang/IllegalArgumentException") X.2.2.2.1 [⟨0, 12, 15, 31⟩] ⟨0, 12, 19, 13⟩ [] (by rw [htab]; rfl) (fun z hz => by cases List.mem_singleton.mp hz; exact Or.inr ⟨by decide, "java/util/NoSuchElementException", X.2.2.1 _ (inBi 974 (by decide +kernel)), X.2.2.2.2.1.2.2.2.2.2.2.2.2.2.2.2⟩) (by decide) (by decide) (X.2.2.1 _ (inBi 557 (by decide +kernel))) (am_nw X (w := .castable (exN 1) "java/lang/IllegalArgumentException") (inNi 572 (by decide +kernel))) a1 a2 a3 ?_
      refine lv_astore (lv' := [(5, .ref q9), (0, .ref x0), (1, .int x1), (2, .int x2), (3, .int x3), (4, .ref x4)]) hx hb dL_turn_19 hl (by decide) rfl (fun ls hl => ?_)
      refine lv_iconst (v := 2) hx hb dL_turn_21 (by decide) ?_
      exact vx_ret (am_riG (cells := 1) (slots := 6) X hS hr rfl dL_turn_22 hlocks)
set_option maxHeartbeats 4000000 in
set_option maxRecDepth 100000 in
theorem cL_would_ok {l : Launch} {E : Ev} (hl0 : l.stackTraces = false) {x0 : Nat} {x1 : Int32} {x2 : Int32} {x3 : Int32} {x4 : Int32} {x5 : Int32} {x6 : Int32} {x7 : Int32} {x8 : Int32} {x9 : Nat} {mm : Mem} {r : Int32} {mm1 : Mem} (hf : fL_would (eS E) x0 x1 x2 x3 x4 x5 x6 x7 x8 x9 mm = some (r, mm1)) : CtH l yL_would cL_would 11 (some .int) [(0, 22, 25, 13)] 9 170 E [.ref x0, .int x1, .int x2, .int x3, .int x4, .int x5, .int x6, .int x7, .int x8, .ref x9] mm r mm1 := by
  refine vx_ofWH (cc := cL_would) (maxL := 11) (ret := some .int) (hh := [(0, 22, 25, 13)]) (by decide) rfl ?_
  intro p e s m args below meth c s₁ B hml hv
  obtain ⟨rfl, X, hS, hr, hlocks, htab⟩ := am_inH B hv
  refine am_entry (Nat.le_of_ble_eq_true rfl) (fun ls hl => ?_)
  have hl : lv_has ls 11 [(0, .ref x0), (1, .int x1), (2, .int x2), (3, .int x3), (4, .int x4), (5, .int x5), (6, .int x6), (7, .int x7), (8, .int x8), (9, .ref x9)] := hl
  have hx := X.1
  have hb := X.2.1
  unfold fL_would at hf
  obtain ⟨u0, h0, hf⟩ := bs hf
  obtain ⟨_, hrc⟩ := isO_n h0
  obtain ⟨u, m1, h1, hf⟩ := bs2 hf
  refine lv_aload hx hb dL_would_0 (lv_at hl 9 rfl) ?_
  refine lv_iconst (v := 0) hx hb dL_would_2 (by decide) ?_
  refine lv_aload_n hx hb dL_would_3 rfl (lv_at hl 0 rfl) ?_
  refine lv_iload_n hx hb dL_would_4 rfl (lv_at hl 1 rfl) ?_
  refine lv_iload_n hx hb dL_would_5 rfl (lv_at hl 2 rfl) ?_
  refine lv_iload_n hx hb dL_would_6 rfl (lv_at hl 3 rfl) ?_
  refine lv_iload hx hb dL_would_7 (lv_at hl 4 rfl) ?_
  refine lv_iload hx hb dL_would_9 (lv_at hl 5 rfl) ?_
  refine lv_iload hx hb dL_would_11 (lv_at hl 6 rfl) ?_
  refine lv_iload hx hb dL_would_13 (lv_at hl 7 rfl) ?_
  refine lv_iload hx hb dL_would_15 (lv_at hl 8 rfl) ?_
  rcases u with r1 | k1
  · have hf := sme_l hf
    obtain ⟨m2, h2, hf⟩ := bs hf
    cases hf
    refine am_endi hS (am_runV (As := [.int x1, .int x2, .int x3, .int x4, .int x5, .int x6, .int x7, .int x8]) X (hml.trans hl.1.symm) hS (cX11_would_ok (l := l) (E := E) hl0 h1) mv_L_46 hrc rfl ⟨Nat.le_of_ble_eq_true rfl, Nat.le_of_ble_eq_true rfl⟩ ⟨Nat.zero_le _, Nat.zero_le _⟩ rfl rfl (Nat.le_of_ble_eq_true rfl) dL_would_17) (fun H locs hS => ?_)
    refine lv_i2l (v := r1.toInt64) hx hb dL_would_20 rfl ?_
    refine am_lst X hS h2 dL_would_21 (fun H locs hS => ?_)
    refine lv_goto (tgt := 29) hx hb dL_would_22 (by decide) ?_
    refine lv_iconst (v := 0) hx hb dL_would_29 (by decide) ?_
    refine W.widen (k := 1) (n := 6) (by omega) (by omega) ?_
    exact vx_ret (am_riG X hS hr rfl dL_would_30 hlocks)
  · have hf := sme_r hf
    obtain ⟨z, h3, hf⟩ := bs hf
    cases hf
    obtain ⟨rfl, rfl⟩ := hcI_n h3
    refine am_thrV (As := [.int x1, .int x2, .int x3, .int x4, .int x5, .int x6, .int x7, .int x8]) X (hml.trans hl.1.symm) hS (cX11_would_thr (l := l) (E := E) hl0 h1) mv_L_46 hrc rfl ⟨Nat.le_of_ble_eq_true rfl, Nat.le_of_ble_eq_true rfl⟩ ⟨Nat.le_of_ble_eq_true rfl, Nat.le_of_ble_eq_true rfl⟩ rfl rfl (Nat.le_of_ble_eq_true rfl) dL_would_17 (fun H locs ce q9 hS a1 a2 a3 => ?_)
    refine vx_catch (own := RL) (name := "java/lang/IllegalArgumentException") X.2.2.2.1 [] ⟨0, 22, 25, 13⟩ [] (by rw [htab]; rfl) (fun z hz => nomatch hz) (by decide) (by decide) (X.2.2.1 _ (inBi 557 (by decide +kernel))) (am_nw X (w := .castable (exN 1) "java/lang/IllegalArgumentException") (inNi 572 (by decide +kernel))) a1 a2 a3 ?_
    refine lv_astore (lv' := [(10, .ref q9), (0, .ref x0), (1, .int x1), (2, .int x2), (3, .int x3), (4, .int x4), (5, .int x5), (6, .int x6), (7, .int x7), (8, .int x8), (9, .ref x9)]) hx hb dL_would_25 hl (by decide) rfl (fun ls hl => ?_)
    refine lv_iconst (v := 1) hx hb dL_would_27 (by decide) ?_
    exact vx_ret (am_riG (cells := 1) (slots := 6) X hS hr rfl dL_would_28 hlocks)
set_option maxHeartbeats 4000000 in
set_option maxRecDepth 100000 in
theorem cL_ahead_ok {l : Launch} {E : Ev} (hl0 : l.stackTraces = false) {x0 : Nat} {x1 : Int32} {x2 : Int32} {x3 : Nat} {mm : Mem} {r : Int32} {mm1 : Mem} (hf : fL_ahead (eS E) x0 x1 x2 x3 mm = some (r, mm1)) : CtH l yL_ahead cL_ahead 5 (some .int) [(0, 10, 13, 13)] 9 163 E [.ref x0, .int x1, .int x2, .ref x3] mm r mm1 := by
  refine vx_ofWH (cc := cL_ahead) (maxL := 5) (ret := some .int) (hh := [(0, 10, 13, 13)]) (by decide) rfl ?_
  intro p e s m args below meth c s₁ B hml hv
  obtain ⟨rfl, X, hS, hr, hlocks, htab⟩ := am_inH B hv
  refine am_entry (Nat.le_of_ble_eq_true rfl) (fun ls hl => ?_)
  have hl : lv_has ls 5 [(0, .ref x0), (1, .int x1), (2, .int x2), (3, .ref x3)] := hl
  have hx := X.1
  have hb := X.2.1
  unfold fL_ahead at hf
  obtain ⟨u0, h0, hf⟩ := bs hf
  obtain ⟨_, hrc⟩ := isO_n h0
  obtain ⟨u, m1, h1, hf⟩ := bs2 hf
  refine lv_aload_n hx hb dL_ahead_0 rfl (lv_at hl 3 rfl) ?_
  refine lv_iconst (v := 0) hx hb dL_ahead_1 (by decide) ?_
  refine lv_aload_n hx hb dL_ahead_2 rfl (lv_at hl 0 rfl) ?_
  refine lv_iload_n hx hb dL_ahead_3 rfl (lv_at hl 1 rfl) ?_
  refine lv_iload_n hx hb dL_ahead_4 rfl (lv_at hl 2 rfl) ?_
  rcases u with r1 | k1
  · have hf := sme_l hf
    obtain ⟨m2, h2, hf⟩ := bs hf
    cases hf
    refine am_endi hS (am_runV (As := [.int x1, .int x2]) X (hml.trans hl.1.symm) hS (cX11_ahead_ok (l := l) (E := E) hl0 h1) mv_L_50 hrc rfl ⟨Nat.le_of_ble_eq_true rfl, Nat.le_of_ble_eq_true rfl⟩ ⟨Nat.zero_le _, Nat.zero_le _⟩ rfl rfl (Nat.le_of_ble_eq_true rfl) dL_ahead_5) (fun H locs hS => ?_)
    refine lv_i2l (v := r1.toInt64) hx hb dL_ahead_8 rfl ?_
    refine am_lst X hS h2 dL_ahead_9 (fun H locs hS => ?_)
    refine lv_goto (tgt := 17) hx hb dL_ahead_10 (by decide) ?_
    refine lv_iconst (v := 0) hx hb dL_ahead_17 (by decide) ?_
    refine W.widen (k := 1) (n := 6) (by omega) (by omega) ?_
    exact vx_ret (am_riG X hS hr rfl dL_ahead_18 hlocks)
  · have hf := sme_r hf
    obtain ⟨z, h3, hf⟩ := bs hf
    cases hf
    obtain ⟨rfl, rfl⟩ := hcI_n h3
    refine am_thrV (As := [.int x1, .int x2]) X (hml.trans hl.1.symm) hS (cX11_ahead_thr (l := l) (E := E) hl0 h1) mv_L_50 hrc rfl ⟨Nat.le_of_ble_eq_true rfl, Nat.le_of_ble_eq_true rfl⟩ ⟨Nat.le_of_ble_eq_true rfl, Nat.le_of_ble_eq_true rfl⟩ rfl rfl (Nat.le_of_ble_eq_true rfl) dL_ahead_5 (fun H locs ce q9 hS a1 a2 a3 => ?_)
    refine vx_catch (own := RL) (name := "java/lang/IllegalArgumentException") X.2.2.2.1 [] ⟨0, 10, 13, 13⟩ [] (by rw [htab]; rfl) (fun z hz => nomatch hz) (by decide) (by decide) (X.2.2.1 _ (inBi 557 (by decide +kernel))) (am_nw X (w := .castable (exN 1) "java/lang/IllegalArgumentException") (inNi 572 (by decide +kernel))) a1 a2 a3 ?_
    refine lv_astore (lv' := [(4, .ref q9), (0, .ref x0), (1, .int x1), (2, .int x2), (3, .ref x3)]) hx hb dL_ahead_13 hl (by decide) rfl (fun ls hl => ?_)
    refine lv_iconst (v := 1) hx hb dL_ahead_15 (by decide) ?_
    exact vx_ret (am_riG (cells := 1) (slots := 6) X hS hr rfl dL_ahead_16 hlocks)
set_option maxHeartbeats 4000000 in
set_option maxRecDepth 100000 in
theorem cL_spread_ok {l : Launch} {E : Ev} (hl0 : l.stackTraces = false) {x0 : Nat} {x1 : Int32} {x2 : Nat} {mm : Mem} {r : Int32} {mm1 : Mem} (hf : fL_spread (eS E) x0 x1 x2 mm = some (r, mm1)) : CtH l yL_spread cL_spread 4 (some .int) [(0, 9, 12, 13)] 9 162 E [.ref x0, .int x1, .ref x2] mm r mm1 := by
  refine vx_ofWH (cc := cL_spread) (maxL := 4) (ret := some .int) (hh := [(0, 9, 12, 13)]) (by decide) rfl ?_
  intro p e s m args below meth c s₁ B hml hv
  obtain ⟨rfl, X, hS, hr, hlocks, htab⟩ := am_inH B hv
  refine am_entry (Nat.le_of_ble_eq_true rfl) (fun ls hl => ?_)
  have hl : lv_has ls 4 [(0, .ref x0), (1, .int x1), (2, .ref x2)] := hl
  have hx := X.1
  have hb := X.2.1
  unfold fL_spread at hf
  obtain ⟨u0, h0, hf⟩ := bs hf
  obtain ⟨_, hrc⟩ := isO_n h0
  obtain ⟨u, m1, h1, hf⟩ := bs2 hf
  refine lv_aload_n hx hb dL_spread_0 rfl (lv_at hl 2 rfl) ?_
  refine lv_iconst (v := 0) hx hb dL_spread_1 (by decide) ?_
  refine lv_aload_n hx hb dL_spread_2 rfl (lv_at hl 0 rfl) ?_
  refine lv_iload_n hx hb dL_spread_3 rfl (lv_at hl 1 rfl) ?_
  rcases u with r1 | k1
  · have hf := sme_l hf
    obtain ⟨m2, h2, hf⟩ := bs hf
    cases hf
    refine am_endi hS (am_runV (As := [.int x1]) X (hml.trans hl.1.symm) hS (cX11_spread_ok (l := l) (E := E) hl0 h1) mv_L_53 hrc rfl ⟨Nat.le_of_ble_eq_true rfl, Nat.le_of_ble_eq_true rfl⟩ ⟨Nat.zero_le _, Nat.zero_le _⟩ rfl rfl (Nat.le_of_ble_eq_true rfl) dL_spread_4) (fun H locs hS => ?_)
    refine lv_i2l (v := r1.toInt64) hx hb dL_spread_7 rfl ?_
    refine am_lst X hS h2 dL_spread_8 (fun H locs hS => ?_)
    refine lv_goto (tgt := 15) hx hb dL_spread_9 (by decide) ?_
    refine lv_iconst (v := 0) hx hb dL_spread_15 (by decide) ?_
    refine W.widen (k := 1) (n := 6) (by omega) (by omega) ?_
    exact vx_ret (am_riG X hS hr rfl dL_spread_16 hlocks)
  · have hf := sme_r hf
    obtain ⟨z, h3, hf⟩ := bs hf
    cases hf
    obtain ⟨rfl, rfl⟩ := hcI_n h3
    refine am_thrV (As := [.int x1]) X (hml.trans hl.1.symm) hS (cX11_spread_thr (l := l) (E := E) hl0 h1) mv_L_53 hrc rfl ⟨Nat.le_of_ble_eq_true rfl, Nat.le_of_ble_eq_true rfl⟩ ⟨Nat.le_of_ble_eq_true rfl, Nat.le_of_ble_eq_true rfl⟩ rfl rfl (Nat.le_of_ble_eq_true rfl) dL_spread_4 (fun H locs ce q9 hS a1 a2 a3 => ?_)
    refine vx_catch (own := RL) (name := "java/lang/IllegalArgumentException") X.2.2.2.1 [] ⟨0, 9, 12, 13⟩ [] (by rw [htab]; rfl) (fun z hz => nomatch hz) (by decide) (by decide) (X.2.2.1 _ (inBi 557 (by decide +kernel))) (am_nw X (w := .castable (exN 1) "java/lang/IllegalArgumentException") (inNi 572 (by decide +kernel))) a1 a2 a3 ?_
    refine lv_astore_n (lv' := [(3, .ref q9), (0, .ref x0), (1, .int x1), (2, .ref x2)]) hx hb dL_spread_12 rfl hl (by decide) rfl (fun ls hl => ?_)
    refine lv_iconst (v := 1) hx hb dL_spread_13 (by decide) ?_
    exact vx_ret (am_riG (cells := 1) (slots := 6) X hS hr rfl dL_spread_14 hlocks)
set_option maxHeartbeats 4000000 in
set_option maxRecDepth 100000 in
theorem cL_bow_ok {l : Launch} {E : Ev} (hl0 : l.stackTraces = false) {x0 : Nat} {x1 : Int32} {x2 : Nat} {mm : Mem} {r : Int32} {mm1 : Mem} (hf : fL_bow (eS E) x0 x1 x2 mm = some (r, mm1)) : CtH l yL_bow cL_bow 4 (some .int) [(0, 9, 12, 13)] 9 168 E [.ref x0, .int x1, .ref x2] mm r mm1 := by
  refine vx_ofWH (cc := cL_bow) (maxL := 4) (ret := some .int) (hh := [(0, 9, 12, 13)]) (by decide) rfl ?_
  intro p e s m args below meth c s₁ B hml hv
  obtain ⟨rfl, X, hS, hr, hlocks, htab⟩ := am_inH B hv
  refine am_entry (Nat.le_of_ble_eq_true rfl) (fun ls hl => ?_)
  have hl : lv_has ls 4 [(0, .ref x0), (1, .int x1), (2, .ref x2)] := hl
  have hx := X.1
  have hb := X.2.1
  unfold fL_bow at hf
  obtain ⟨u0, h0, hf⟩ := bs hf
  obtain ⟨_, hrc⟩ := isO_n h0
  obtain ⟨u, m1, h1, hf⟩ := bs2 hf
  refine lv_aload_n hx hb dL_bow_0 rfl (lv_at hl 2 rfl) ?_
  refine lv_iconst (v := 0) hx hb dL_bow_1 (by decide) ?_
  refine lv_aload_n hx hb dL_bow_2 rfl (lv_at hl 0 rfl) ?_
  refine lv_iload_n hx hb dL_bow_3 rfl (lv_at hl 1 rfl) ?_
  rcases u with r1 | k1
  · have hf := sme_l hf
    obtain ⟨m2, h2, hf⟩ := bs hf
    cases hf
    refine am_endi hS (am_runV (As := [.int x1]) X (hml.trans hl.1.symm) hS (cX11_bow_ok (l := l) (E := E) hl0 h1) mv_L_56 hrc rfl ⟨Nat.le_of_ble_eq_true rfl, Nat.le_of_ble_eq_true rfl⟩ ⟨Nat.zero_le _, Nat.zero_le _⟩ rfl rfl (Nat.le_of_ble_eq_true rfl) dL_bow_4) (fun H locs hS => ?_)
    refine lv_i2l (v := r1.toInt64) hx hb dL_bow_7 rfl ?_
    refine am_lst X hS h2 dL_bow_8 (fun H locs hS => ?_)
    refine lv_goto (tgt := 15) hx hb dL_bow_9 (by decide) ?_
    refine lv_iconst (v := 0) hx hb dL_bow_15 (by decide) ?_
    refine W.widen (k := 1) (n := 6) (by omega) (by omega) ?_
    exact vx_ret (am_riG X hS hr rfl dL_bow_16 hlocks)
  · have hf := sme_r hf
    obtain ⟨z, h3, hf⟩ := bs hf
    cases hf
    obtain ⟨rfl, rfl⟩ := hcI_n h3
    refine am_thrV (As := [.int x1]) X (hml.trans hl.1.symm) hS (cX11_bow_thr (l := l) (E := E) hl0 h1) mv_L_56 hrc rfl ⟨Nat.le_of_ble_eq_true rfl, Nat.le_of_ble_eq_true rfl⟩ ⟨Nat.le_of_ble_eq_true rfl, Nat.le_of_ble_eq_true rfl⟩ rfl rfl (Nat.le_of_ble_eq_true rfl) dL_bow_4 (fun H locs ce q9 hS a1 a2 a3 => ?_)
    refine vx_catch (own := RL) (name := "java/lang/IllegalArgumentException") X.2.2.2.1 [] ⟨0, 9, 12, 13⟩ [] (by rw [htab]; rfl) (fun z hz => nomatch hz) (by decide) (by decide) (X.2.2.1 _ (inBi 557 (by decide +kernel))) (am_nw X (w := .castable (exN 1) "java/lang/IllegalArgumentException") (inNi 572 (by decide +kernel))) a1 a2 a3 ?_
    refine lv_astore_n (lv' := [(3, .ref q9), (0, .ref x0), (1, .int x1), (2, .ref x2)]) hx hb dL_bow_12 rfl hl (by decide) rfl (fun ls hl => ?_)
    refine lv_iconst (v := 1) hx hb dL_bow_13 (by decide) ?_
    exact vx_ret (am_riG (cells := 1) (slots := 6) X hS hr rfl dL_bow_14 hlocks)
set_option maxHeartbeats 4000000 in
set_option maxRecDepth 100000 in
theorem cL_through_ok {l : Launch} {E : Ev} (hl0 : l.stackTraces = false) {x0 : Nat} {x1 : Int32} {x2 : Int32} {x3 : Int32} {x4 : Nat} {mm : Mem} {r : Int32} {mm1 : Mem} (hf : fL_through (eS E) x0 x1 x2 x3 x4 mm = some (r, mm1)) : CtH l yL_through cL_through 6 (some .int) [(0, 12, 15, 31), (0, 12, 19, 13)] 9 166 E [.ref x0, .int x1, .int x2, .int x3, .ref x4] mm r mm1 := by
  refine vx_ofWH (cc := cL_through) (maxL := 6) (ret := some .int) (hh := [(0, 12, 15, 31), (0, 12, 19, 13)]) (by decide) rfl ?_
  intro p e s m args below meth c s₁ B hml hv
  obtain ⟨rfl, X, hS, hr, hlocks, htab⟩ := am_inH B hv
  refine am_entry (Nat.le_of_ble_eq_true rfl) (fun ls hl => ?_)
  have hl : lv_has ls 6 [(0, .ref x0), (1, .int x1), (2, .int x2), (3, .int x3), (4, .ref x4)] := hl
  have hx := X.1
  have hb := X.2.1
  unfold fL_through at hf
  obtain ⟨u0, h0, hf⟩ := bs hf
  obtain ⟨_, hrc⟩ := isO_n h0
  obtain ⟨u, m1, h1, hf⟩ := bs2 hf
  refine lv_aload hx hb dL_through_0 (lv_at hl 4 rfl) ?_
  refine lv_iconst (v := 0) hx hb dL_through_2 (by decide) ?_
  refine lv_aload_n hx hb dL_through_3 rfl (lv_at hl 0 rfl) ?_
  refine lv_iload_n hx hb dL_through_4 rfl (lv_at hl 1 rfl) ?_
  refine lv_iload_n hx hb dL_through_5 rfl (lv_at hl 2 rfl) ?_
  refine lv_iload_n hx hb dL_through_6 rfl (lv_at hl 3 rfl) ?_
  rcases u with r1 | k1
  · have hf := sme_l hf
    obtain ⟨m2, h2, hf⟩ := bs hf
    cases hf
    refine am_endi hS (am_runV (As := [.int x1, .int x2, .int x3]) X (hml.trans hl.1.symm) hS (cX11_through_ok (l := l) (E := E) hl0 h1) mv_L_59 hrc rfl ⟨Nat.le_of_ble_eq_true rfl, Nat.le_of_ble_eq_true rfl⟩ ⟨Nat.zero_le _, Nat.zero_le _⟩ rfl rfl (Nat.le_of_ble_eq_true rfl) dL_through_7) (fun H locs hS => ?_)
    refine lv_i2l (v := r1.toInt64) hx hb dL_through_10 rfl ?_
    refine am_lst X hS h2 dL_through_11 (fun H locs hS => ?_)
    refine lv_goto (tgt := 23) hx hb dL_through_12 (by decide) ?_
    refine lv_iconst (v := 0) hx hb dL_through_23 (by decide) ?_
    refine W.widen (k := 1) (n := 6) (by omega) (by omega) ?_
    exact vx_ret (am_riG X hS hr rfl dL_through_24 hlocks)
  · have hf := sme_r hf
    obtain ⟨z, h3, hf⟩ := bs hf
    cases hf
    rcases hcB_n h3 with ⟨rfl, rfl⟩ | ⟨rfl, rfl⟩
    · refine am_thrV (As := [.int x1, .int x2, .int x3]) X (hml.trans hl.1.symm) hS (cX11_through_thr (l := l) (E := E) hl0 h1) mv_L_59 hrc rfl ⟨Nat.le_of_ble_eq_true rfl, Nat.le_of_ble_eq_true rfl⟩ ⟨Nat.le_of_ble_eq_true rfl, Nat.le_of_ble_eq_true rfl⟩ rfl rfl (Nat.le_of_ble_eq_true rfl) dL_through_7 (fun H locs ce q9 hS a1 a2 a3 => ?_)
      refine vx_catch (own := RL) (name := "java/util/NoSuchElementException") X.2.2.2.1 [] ⟨0, 12, 15, 31⟩ [⟨0, 12, 19, 13⟩] (by rw [htab]; rfl) (fun z hz => nomatch hz) (by decide) (by decide) (X.2.2.1 _ (inBi 974 (by decide +kernel))) (am_nw X (w := .castable (exN 0) "java/util/NoSuchElementException") (inNi 989 (by decide +kernel))) a1 a2 a3 ?_
      refine lv_astore (lv' := [(5, .ref q9), (0, .ref x0), (1, .int x1), (2, .int x2), (3, .int x3), (4, .ref x4)]) hx hb dL_through_15 hl (by decide) rfl (fun ls hl => ?_)
      refine lv_iconst (v := 1) hx hb dL_through_17 (by decide) ?_
      exact vx_ret (am_riG (cells := 1) (slots := 6) X hS hr rfl dL_through_18 hlocks)
    · refine am_thrV (As := [.int x1, .int x2, .int x3]) X (hml.trans hl.1.symm) hS (cX11_through_thr (l := l) (E := E) hl0 h1) mv_L_59 hrc rfl ⟨Nat.le_of_ble_eq_true rfl, Nat.le_of_ble_eq_true rfl⟩ ⟨Nat.le_of_ble_eq_true rfl, Nat.le_of_ble_eq_true rfl⟩ rfl rfl (Nat.le_of_ble_eq_true rfl) dL_through_7 (fun H locs ce q9 hS a1 a2 a3 => ?_)
      refine vx_catch (own := RL) (name := "java/lang/IllegalArgumentException") X.2.2.2.1 [⟨0, 12, 15, 31⟩] ⟨0, 12, 19, 13⟩ [] (by rw [htab]; rfl) (fun z hz => by cases List.mem_singleton.mp hz; exact Or.inr ⟨by decide, "java/util/NoSuchElementException", X.2.2.1 _ (inBi 974 (by decide +kernel)), X.2.2.2.2.1.2.2.2.2.2.2.2.2.2.2.2⟩) (by decide) (by decide) (X.2.2.1 _ (inBi 557 (by decide +kernel))) (am_nw X (w := .castable (exN 1) "java/lang/IllegalArgumentException") (inNi 572 (by decide +kernel))) a1 a2 a3 ?_
      refine lv_astore (lv' := [(5, .ref q9), (0, .ref x0), (1, .int x1), (2, .int x2), (3, .int x3), (4, .ref x4)]) hx hb dL_through_19 hl (by decide) rfl (fun ls hl => ?_)
      refine lv_iconst (v := 2) hx hb dL_through_21 (by decide) ?_
      exact vx_ret (am_riG (cells := 1) (slots := 6) X hS hr rfl dL_through_22 hlocks)
set_option maxHeartbeats 4000000 in
set_option maxRecDepth 100000 in
theorem cL_serves_ok {l : Launch} {E : Ev} (hl0 : l.stackTraces = false) {x0 : Nat} {x1 : Int32} {x2 : Int32} {x3 : Nat} {mm : Mem} {r : Int32} {mm1 : Mem} (hf : fL_serves (eS E) x0 x1 x2 x3 mm = some (r, mm1)) : CtH l yL_serves cL_serves 5 (some .int) [(0, 10, 13, 13)] 9 167 E [.ref x0, .int x1, .int x2, .ref x3] mm r mm1 := by
  refine vx_ofWH (cc := cL_serves) (maxL := 5) (ret := some .int) (hh := [(0, 10, 13, 13)]) (by decide) rfl ?_
  intro p e s m args below meth c s₁ B hml hv
  obtain ⟨rfl, X, hS, hr, hlocks, htab⟩ := am_inH B hv
  refine am_entry (Nat.le_of_ble_eq_true rfl) (fun ls hl => ?_)
  have hl : lv_has ls 5 [(0, .ref x0), (1, .int x1), (2, .int x2), (3, .ref x3)] := hl
  have hx := X.1
  have hb := X.2.1
  unfold fL_serves at hf
  obtain ⟨u0, h0, hf⟩ := bs hf
  obtain ⟨_, hrc⟩ := isO_n h0
  obtain ⟨u, m1, h1, hf⟩ := bs2 hf
  refine lv_aload_n hx hb dL_serves_0 rfl (lv_at hl 3 rfl) ?_
  refine lv_iconst (v := 0) hx hb dL_serves_1 (by decide) ?_
  refine lv_aload_n hx hb dL_serves_2 rfl (lv_at hl 0 rfl) ?_
  refine lv_iload_n hx hb dL_serves_3 rfl (lv_at hl 1 rfl) ?_
  refine lv_iload_n hx hb dL_serves_4 rfl (lv_at hl 2 rfl) ?_
  rcases u with r1 | k1
  · have hf := sme_l hf
    obtain ⟨m2, h2, hf⟩ := bs hf
    cases hf
    refine am_endi hS (am_runV (As := [.int x1, .int x2]) X (hml.trans hl.1.symm) hS (cX11_serves_ok (l := l) (E := E) hl0 h1) mv_L_62 hrc rfl ⟨Nat.le_of_ble_eq_true rfl, Nat.le_of_ble_eq_true rfl⟩ ⟨Nat.zero_le _, Nat.zero_le _⟩ rfl rfl (Nat.le_of_ble_eq_true rfl) dL_serves_5) (fun H locs hS => ?_)
    refine lv_i2l (v := r1.toInt64) hx hb dL_serves_8 rfl ?_
    refine am_lst X hS h2 dL_serves_9 (fun H locs hS => ?_)
    refine lv_goto (tgt := 17) hx hb dL_serves_10 (by decide) ?_
    refine lv_iconst (v := 0) hx hb dL_serves_17 (by decide) ?_
    refine W.widen (k := 1) (n := 6) (by omega) (by omega) ?_
    exact vx_ret (am_riG X hS hr rfl dL_serves_18 hlocks)
  · have hf := sme_r hf
    obtain ⟨z, h3, hf⟩ := bs hf
    cases hf
    obtain ⟨rfl, rfl⟩ := hcI_n h3
    refine am_thrV (As := [.int x1, .int x2]) X (hml.trans hl.1.symm) hS (cX11_serves_thr (l := l) (E := E) hl0 h1) mv_L_62 hrc rfl ⟨Nat.le_of_ble_eq_true rfl, Nat.le_of_ble_eq_true rfl⟩ ⟨Nat.le_of_ble_eq_true rfl, Nat.le_of_ble_eq_true rfl⟩ rfl rfl (Nat.le_of_ble_eq_true rfl) dL_serves_5 (fun H locs ce q9 hS a1 a2 a3 => ?_)
    refine vx_catch (own := RL) (name := "java/lang/IllegalArgumentException") X.2.2.2.1 [] ⟨0, 10, 13, 13⟩ [] (by rw [htab]; rfl) (fun z hz => nomatch hz) (by decide) (by decide) (X.2.2.1 _ (inBi 557 (by decide +kernel))) (am_nw X (w := .castable (exN 1) "java/lang/IllegalArgumentException") (inNi 572 (by decide +kernel))) a1 a2 a3 ?_
    refine lv_astore (lv' := [(4, .ref q9), (0, .ref x0), (1, .int x1), (2, .int x2), (3, .ref x3)]) hx hb dL_serves_13 hl (by decide) rfl (fun ls hl => ?_)
    refine lv_iconst (v := 1) hx hb dL_serves_15 (by decide) ?_
    exact vx_ret (am_riG (cells := 1) (slots := 6) X hS hr rfl dL_serves_16 hlocks)
set_option maxHeartbeats 4000000 in
set_option maxRecDepth 100000 in
theorem cL_fits_ok {l : Launch} {E : Ev} (hl0 : l.stackTraces = false) {x0 : Nat} {x1 : Int32} {x2 : Nat} {mm : Mem} {r : Int32} {mm1 : Mem} (hf : fL_fits (eS E) x0 x1 x2 mm = some (r, mm1)) : CtH l yL_fits cL_fits 4 (some .int) [(0, 9, 12, 13)] 9 167 E [.ref x0, .int x1, .ref x2] mm r mm1 := by
  refine vx_ofWH (cc := cL_fits) (maxL := 4) (ret := some .int) (hh := [(0, 9, 12, 13)]) (by decide) rfl ?_
  intro p e s m args below meth c s₁ B hml hv
  obtain ⟨rfl, X, hS, hr, hlocks, htab⟩ := am_inH B hv
  refine am_entry (Nat.le_of_ble_eq_true rfl) (fun ls hl => ?_)
  have hl : lv_has ls 4 [(0, .ref x0), (1, .int x1), (2, .ref x2)] := hl
  have hx := X.1
  have hb := X.2.1
  unfold fL_fits at hf
  obtain ⟨u0, h0, hf⟩ := bs hf
  obtain ⟨_, hrc⟩ := isO_n h0
  obtain ⟨u, m1, h1, hf⟩ := bs2 hf
  refine lv_aload_n hx hb dL_fits_0 rfl (lv_at hl 2 rfl) ?_
  refine lv_iconst (v := 0) hx hb dL_fits_1 (by decide) ?_
  refine lv_aload_n hx hb dL_fits_2 rfl (lv_at hl 0 rfl) ?_
  refine lv_iload_n hx hb dL_fits_3 rfl (lv_at hl 1 rfl) ?_
  rcases u with r1 | k1
  · have hf := sme_l hf
    obtain ⟨m2, h2, hf⟩ := bs hf
    cases hf
    refine am_endi hS (am_runV (As := [.int x1]) X (hml.trans hl.1.symm) hS (cX11_fits_ok (l := l) (E := E) hl0 h1) mv_L_65 hrc rfl ⟨Nat.le_of_ble_eq_true rfl, Nat.le_of_ble_eq_true rfl⟩ ⟨Nat.zero_le _, Nat.zero_le _⟩ rfl rfl (Nat.le_of_ble_eq_true rfl) dL_fits_4) (fun H locs hS => ?_)
    refine lv_i2l (v := r1.toInt64) hx hb dL_fits_7 rfl ?_
    refine am_lst X hS h2 dL_fits_8 (fun H locs hS => ?_)
    refine lv_goto (tgt := 15) hx hb dL_fits_9 (by decide) ?_
    refine lv_iconst (v := 0) hx hb dL_fits_15 (by decide) ?_
    refine W.widen (k := 1) (n := 6) (by omega) (by omega) ?_
    exact vx_ret (am_riG X hS hr rfl dL_fits_16 hlocks)
  · have hf := sme_r hf
    obtain ⟨z, h3, hf⟩ := bs hf
    cases hf
    obtain ⟨rfl, rfl⟩ := hcI_n h3
    refine am_thrV (As := [.int x1]) X (hml.trans hl.1.symm) hS (cX11_fits_thr (l := l) (E := E) hl0 h1) mv_L_65 hrc rfl ⟨Nat.le_of_ble_eq_true rfl, Nat.le_of_ble_eq_true rfl⟩ ⟨Nat.le_of_ble_eq_true rfl, Nat.le_of_ble_eq_true rfl⟩ rfl rfl (Nat.le_of_ble_eq_true rfl) dL_fits_4 (fun H locs ce q9 hS a1 a2 a3 => ?_)
    refine vx_catch (own := RL) (name := "java/lang/IllegalArgumentException") X.2.2.2.1 [] ⟨0, 9, 12, 13⟩ [] (by rw [htab]; rfl) (fun z hz => nomatch hz) (by decide) (by decide) (X.2.2.1 _ (inBi 557 (by decide +kernel))) (am_nw X (w := .castable (exN 1) "java/lang/IllegalArgumentException") (inNi 572 (by decide +kernel))) a1 a2 a3 ?_
    refine lv_astore_n (lv' := [(3, .ref q9), (0, .ref x0), (1, .int x1), (2, .ref x2)]) hx hb dL_fits_12 rfl hl (by decide) rfl (fun ls hl => ?_)
    refine lv_iconst (v := 1) hx hb dL_fits_13 (by decide) ?_
    exact vx_ret (am_riG (cells := 1) (slots := 6) X hS hr rfl dL_fits_14 hlocks)
set_option maxHeartbeats 4000000 in
set_option maxRecDepth 100000 in
theorem cL_look_ok {l : Launch} {E : Ev} (hl0 : l.stackTraces = false) {x0 : Nat} {x1 : Int32} {x2 : Nat} {mm : Mem} {r : Int32} {mm1 : Mem} (hf : fL_look (eS E) x0 x1 x2 mm = some (r, mm1)) : CtH l yL_look cL_look 4 (some .int) [(0, 9, 12, 13)] 9 171 E [.ref x0, .int x1, .ref x2] mm r mm1 := by
  refine vx_ofWH (cc := cL_look) (maxL := 4) (ret := some .int) (hh := [(0, 9, 12, 13)]) (by decide) rfl ?_
  intro p e s m args below meth c s₁ B hml hv
  obtain ⟨rfl, X, hS, hr, hlocks, htab⟩ := am_inH B hv
  refine am_entry (Nat.le_of_ble_eq_true rfl) (fun ls hl => ?_)
  have hl : lv_has ls 4 [(0, .ref x0), (1, .int x1), (2, .ref x2)] := hl
  have hx := X.1
  have hb := X.2.1
  unfold fL_look at hf
  obtain ⟨u0, h0, hf⟩ := bs hf
  obtain ⟨_, hrc⟩ := isO_n h0
  obtain ⟨u, m1, h1, hf⟩ := bs2 hf
  refine lv_aload_n hx hb dL_look_0 rfl (lv_at hl 2 rfl) ?_
  refine lv_iconst (v := 0) hx hb dL_look_1 (by decide) ?_
  refine lv_aload_n hx hb dL_look_2 rfl (lv_at hl 0 rfl) ?_
  refine lv_iload_n hx hb dL_look_3 rfl (lv_at hl 1 rfl) ?_
  rcases u with r1 | k1
  · have hf := sme_l hf
    obtain ⟨m2, h2, hf⟩ := bs hf
    cases hf
    refine am_endi hS (am_runV (As := [.int x1]) X (hml.trans hl.1.symm) hS (cX11_look_ok (l := l) (E := E) hl0 h1) mv_L_68 hrc rfl ⟨Nat.le_of_ble_eq_true rfl, Nat.le_of_ble_eq_true rfl⟩ ⟨Nat.zero_le _, Nat.zero_le _⟩ rfl rfl (Nat.le_of_ble_eq_true rfl) dL_look_4) (fun H locs hS => ?_)
    refine lv_i2l (v := r1.toInt64) hx hb dL_look_7 rfl ?_
    refine am_lst X hS h2 dL_look_8 (fun H locs hS => ?_)
    refine lv_goto (tgt := 15) hx hb dL_look_9 (by decide) ?_
    refine lv_iconst (v := 0) hx hb dL_look_15 (by decide) ?_
    refine W.widen (k := 1) (n := 6) (by omega) (by omega) ?_
    exact vx_ret (am_riG X hS hr rfl dL_look_16 hlocks)
  · have hf := sme_r hf
    obtain ⟨z, h3, hf⟩ := bs hf
    cases hf
    obtain ⟨rfl, rfl⟩ := hcI_n h3
    refine am_thrV (As := [.int x1]) X (hml.trans hl.1.symm) hS (cX11_look_thr (l := l) (E := E) hl0 h1) mv_L_68 hrc rfl ⟨Nat.le_of_ble_eq_true rfl, Nat.le_of_ble_eq_true rfl⟩ ⟨Nat.le_of_ble_eq_true rfl, Nat.le_of_ble_eq_true rfl⟩ rfl rfl (Nat.le_of_ble_eq_true rfl) dL_look_4 (fun H locs ce q9 hS a1 a2 a3 => ?_)
    refine vx_catch (own := RL) (name := "java/lang/IllegalArgumentException") X.2.2.2.1 [] ⟨0, 9, 12, 13⟩ [] (by rw [htab]; rfl) (fun z hz => nomatch hz) (by decide) (by decide) (X.2.2.1 _ (inBi 557 (by decide +kernel))) (am_nw X (w := .castable (exN 1) "java/lang/IllegalArgumentException") (inNi 572 (by decide +kernel))) a1 a2 a3 ?_
    refine lv_astore_n (lv' := [(3, .ref q9), (0, .ref x0), (1, .int x1), (2, .ref x2)]) hx hb dL_look_12 rfl hl (by decide) rfl (fun ls hl => ?_)
    refine lv_iconst (v := 1) hx hb dL_look_13 (by decide) ?_
    exact vx_ret (am_riG (cells := 1) (slots := 6) X hS hr rfl dL_look_14 hlocks)
set_option maxHeartbeats 4000000 in
set_option maxRecDepth 100000 in
theorem cL_swings_ok {l : Launch} {E : Ev} (hl0 : l.stackTraces = false) {x0 : Nat} {x1 : Int32} {x2 : Int32} {x3 : Int32} {x4 : Nat} {mm : Mem} {r : Int32} {mm1 : Mem} (hf : fL_swings (eS E) x0 x1 x2 x3 x4 mm = some (r, mm1)) : CtH l yL_swings cL_swings 6 (some .int) [(0, 12, 15, 31), (0, 12, 19, 13)] 9 166 E [.ref x0, .int x1, .int x2, .int x3, .ref x4] mm r mm1 := by
  refine vx_ofWH (cc := cL_swings) (maxL := 6) (ret := some .int) (hh := [(0, 12, 15, 31), (0, 12, 19, 13)]) (by decide) rfl ?_
  intro p e s m args below meth c s₁ B hml hv
  obtain ⟨rfl, X, hS, hr, hlocks, htab⟩ := am_inH B hv
  refine am_entry (Nat.le_of_ble_eq_true rfl) (fun ls hl => ?_)
  have hl : lv_has ls 6 [(0, .ref x0), (1, .int x1), (2, .int x2), (3, .int x3), (4, .ref x4)] := hl
  have hx := X.1
  have hb := X.2.1
  unfold fL_swings at hf
  obtain ⟨u0, h0, hf⟩ := bs hf
  obtain ⟨_, hrc⟩ := isO_n h0
  obtain ⟨u, m1, h1, hf⟩ := bs2 hf
  refine lv_aload hx hb dL_swings_0 (lv_at hl 4 rfl) ?_
  refine lv_iconst (v := 0) hx hb dL_swings_2 (by decide) ?_
  refine lv_aload_n hx hb dL_swings_3 rfl (lv_at hl 0 rfl) ?_
  refine lv_iload_n hx hb dL_swings_4 rfl (lv_at hl 1 rfl) ?_
  refine lv_iload_n hx hb dL_swings_5 rfl (lv_at hl 2 rfl) ?_
  refine lv_iload_n hx hb dL_swings_6 rfl (lv_at hl 3 rfl) ?_
  rcases u with r1 | k1
  · have hf := sme_l hf
    obtain ⟨m2, h2, hf⟩ := bs hf
    cases hf
    refine am_endi hS (am_runV (As := [.int x1, .int x2, .int x3]) X (hml.trans hl.1.symm) hS (cX11_swings_ok (l := l) (E := E) hl0 h1) mv_L_71 hrc rfl ⟨Nat.le_of_ble_eq_true rfl, Nat.le_of_ble_eq_true rfl⟩ ⟨Nat.zero_le _, Nat.zero_le _⟩ rfl rfl (Nat.le_of_ble_eq_true rfl) dL_swings_7) (fun H locs hS => ?_)
    refine lv_i2l (v := r1.toInt64) hx hb dL_swings_10 rfl ?_
    refine am_lst X hS h2 dL_swings_11 (fun H locs hS => ?_)
    refine lv_goto (tgt := 23) hx hb dL_swings_12 (by decide) ?_
    refine lv_iconst (v := 0) hx hb dL_swings_23 (by decide) ?_
    refine W.widen (k := 1) (n := 6) (by omega) (by omega) ?_
    exact vx_ret (am_riG X hS hr rfl dL_swings_24 hlocks)
  · have hf := sme_r hf
    obtain ⟨z, h3, hf⟩ := bs hf
    cases hf
    rcases hcB_n h3 with ⟨rfl, rfl⟩ | ⟨rfl, rfl⟩
    · refine am_thrV (As := [.int x1, .int x2, .int x3]) X (hml.trans hl.1.symm) hS (cX11_swings_thr (l := l) (E := E) hl0 h1) mv_L_71 hrc rfl ⟨Nat.le_of_ble_eq_true rfl, Nat.le_of_ble_eq_true rfl⟩ ⟨Nat.le_of_ble_eq_true rfl, Nat.le_of_ble_eq_true rfl⟩ rfl rfl (Nat.le_of_ble_eq_true rfl) dL_swings_7 (fun H locs ce q9 hS a1 a2 a3 => ?_)
      refine vx_catch (own := RL) (name := "java/util/NoSuchElementException") X.2.2.2.1 [] ⟨0, 12, 15, 31⟩ [⟨0, 12, 19, 13⟩] (by rw [htab]; rfl) (fun z hz => nomatch hz) (by decide) (by decide) (X.2.2.1 _ (inBi 974 (by decide +kernel))) (am_nw X (w := .castable (exN 0) "java/util/NoSuchElementException") (inNi 989 (by decide +kernel))) a1 a2 a3 ?_
      refine lv_astore (lv' := [(5, .ref q9), (0, .ref x0), (1, .int x1), (2, .int x2), (3, .int x3), (4, .ref x4)]) hx hb dL_swings_15 hl (by decide) rfl (fun ls hl => ?_)
      refine lv_iconst (v := 1) hx hb dL_swings_17 (by decide) ?_
      exact vx_ret (am_riG (cells := 1) (slots := 6) X hS hr rfl dL_swings_18 hlocks)
    · refine am_thrV (As := [.int x1, .int x2, .int x3]) X (hml.trans hl.1.symm) hS (cX11_swings_thr (l := l) (E := E) hl0 h1) mv_L_71 hrc rfl ⟨Nat.le_of_ble_eq_true rfl, Nat.le_of_ble_eq_true rfl⟩ ⟨Nat.le_of_ble_eq_true rfl, Nat.le_of_ble_eq_true rfl⟩ rfl rfl (Nat.le_of_ble_eq_true rfl) dL_swings_7 (fun H locs ce q9 hS a1 a2 a3 => ?_)
      refine vx_catch (own := RL) (name := "java/lang/IllegalArgumentException") X.2.2.2.1 [⟨0, 12, 15, 31⟩] ⟨0, 12, 19, 13⟩ [] (by rw [htab]; rfl) (fun z hz => by cases List.mem_singleton.mp hz; exact Or.inr ⟨by decide, "java/util/NoSuchElementException", X.2.2.1 _ (inBi 974 (by decide +kernel)), X.2.2.2.2.1.2.2.2.2.2.2.2.2.2.2.2⟩) (by decide) (by decide) (X.2.2.1 _ (inBi 557 (by decide +kernel))) (am_nw X (w := .castable (exN 1) "java/lang/IllegalArgumentException") (inNi 572 (by decide +kernel))) a1 a2 a3 ?_
      refine lv_astore (lv' := [(5, .ref q9), (0, .ref x0), (1, .int x1), (2, .int x2), (3, .int x3), (4, .ref x4)]) hx hb dL_swings_19 hl (by decide) rfl (fun ls hl => ?_)
      refine lv_iconst (v := 2) hx hb dL_swings_21 (by decide) ?_
      exact vx_ret (am_riG (cells := 1) (slots := 6) X hS hr rfl dL_swings_22 hlocks)
set_option maxHeartbeats 4000000 in
set_option maxRecDepth 100000 in
theorem cL_power_ok {l : Launch} {E : Ev} (hl0 : l.stackTraces = false) {x0 : Nat} {x1 : Int32} {x2 : Int32} {x3 : Int32} {x4 : Int32} {x5 : Nat} {mm : Mem} {r : Int32} {mm1 : Mem} (hf : fL_power (eS E) x0 x1 x2 x3 x4 x5 mm = some (r, mm1)) : CtH l yL_power cL_power 7 (some .int) [(0, 14, 17, 31), (0, 14, 21, 13)] 9 168 E [.ref x0, .int x1, .int x2, .int x3, .int x4, .ref x5] mm r mm1 := by
  refine vx_ofWH (cc := cL_power) (maxL := 7) (ret := some .int) (hh := [(0, 14, 17, 31), (0, 14, 21, 13)]) (by decide) rfl ?_
  intro p e s m args below meth c s₁ B hml hv
  obtain ⟨rfl, X, hS, hr, hlocks, htab⟩ := am_inH B hv
  refine am_entry (Nat.le_of_ble_eq_true rfl) (fun ls hl => ?_)
  have hl : lv_has ls 7 [(0, .ref x0), (1, .int x1), (2, .int x2), (3, .int x3), (4, .int x4), (5, .ref x5)] := hl
  have hx := X.1
  have hb := X.2.1
  unfold fL_power at hf
  obtain ⟨u0, h0, hf⟩ := bs hf
  obtain ⟨_, hrc⟩ := isO_n h0
  obtain ⟨u, m1, h1, hf⟩ := bs2 hf
  refine lv_aload hx hb dL_power_0 (lv_at hl 5 rfl) ?_
  refine lv_iconst (v := 0) hx hb dL_power_2 (by decide) ?_
  refine lv_aload_n hx hb dL_power_3 rfl (lv_at hl 0 rfl) ?_
  refine lv_iload_n hx hb dL_power_4 rfl (lv_at hl 1 rfl) ?_
  refine lv_iload_n hx hb dL_power_5 rfl (lv_at hl 2 rfl) ?_
  refine lv_iload_n hx hb dL_power_6 rfl (lv_at hl 3 rfl) ?_
  refine lv_iload hx hb dL_power_7 (lv_at hl 4 rfl) ?_
  rcases u with r1 | k1
  · have hf := sme_l hf
    obtain ⟨m2, h2, hf⟩ := bs hf
    cases hf
    refine am_endi hS (am_runV (As := [.int x1, .int x2, .int x3, .int x4]) X (hml.trans hl.1.symm) hS (cX11_power_ok (l := l) (E := E) hl0 h1) mv_L_74 hrc rfl ⟨Nat.le_of_ble_eq_true rfl, Nat.le_of_ble_eq_true rfl⟩ ⟨Nat.zero_le _, Nat.zero_le _⟩ rfl rfl (Nat.le_of_ble_eq_true rfl) dL_power_9) (fun H locs hS => ?_)
    refine lv_i2l (v := r1.toInt64) hx hb dL_power_12 rfl ?_
    refine am_lst X hS h2 dL_power_13 (fun H locs hS => ?_)
    refine lv_goto (tgt := 25) hx hb dL_power_14 (by decide) ?_
    refine lv_iconst (v := 0) hx hb dL_power_25 (by decide) ?_
    refine W.widen (k := 1) (n := 6) (by omega) (by omega) ?_
    exact vx_ret (am_riG X hS hr rfl dL_power_26 hlocks)
  · have hf := sme_r hf
    obtain ⟨z, h3, hf⟩ := bs hf
    cases hf
    rcases hcB_n h3 with ⟨rfl, rfl⟩ | ⟨rfl, rfl⟩
    · refine am_thrV (As := [.int x1, .int x2, .int x3, .int x4]) X (hml.trans hl.1.symm) hS (cX11_power_thr (l := l) (E := E) hl0 h1) mv_L_74 hrc rfl ⟨Nat.le_of_ble_eq_true rfl, Nat.le_of_ble_eq_true rfl⟩ ⟨Nat.le_of_ble_eq_true rfl, Nat.le_of_ble_eq_true rfl⟩ rfl rfl (Nat.le_of_ble_eq_true rfl) dL_power_9 (fun H locs ce q9 hS a1 a2 a3 => ?_)
      refine vx_catch (own := RL) (name := "java/util/NoSuchElementException") X.2.2.2.1 [] ⟨0, 14, 17, 31⟩ [⟨0, 14, 21, 13⟩] (by rw [htab]; rfl) (fun z hz => nomatch hz) (by decide) (by decide) (X.2.2.1 _ (inBi 974 (by decide +kernel))) (am_nw X (w := .castable (exN 0) "java/util/NoSuchElementException") (inNi 989 (by decide +kernel))) a1 a2 a3 ?_
      refine lv_astore (lv' := [(6, .ref q9), (0, .ref x0), (1, .int x1), (2, .int x2), (3, .int x3), (4, .int x4), (5, .ref x5)]) hx hb dL_power_17 hl (by decide) rfl (fun ls hl => ?_)
      refine lv_iconst (v := 1) hx hb dL_power_19 (by decide) ?_
      exact vx_ret (am_riG (cells := 1) (slots := 6) X hS hr rfl dL_power_20 hlocks)
    · refine am_thrV (As := [.int x1, .int x2, .int x3, .int x4]) X (hml.trans hl.1.symm) hS (cX11_power_thr (l := l) (E := E) hl0 h1) mv_L_74 hrc rfl ⟨Nat.le_of_ble_eq_true rfl, Nat.le_of_ble_eq_true rfl⟩ ⟨Nat.le_of_ble_eq_true rfl, Nat.le_of_ble_eq_true rfl⟩ rfl rfl (Nat.le_of_ble_eq_true rfl) dL_power_9 (fun H locs ce q9 hS a1 a2 a3 => ?_)
      refine vx_catch (own := RL) (name := "java/lang/IllegalArgumentException") X.2.2.2.1 [⟨0, 14, 17, 31⟩] ⟨0, 14, 21, 13⟩ [] (by rw [htab]; rfl) (fun z hz => by cases List.mem_singleton.mp hz; exact Or.inr ⟨by decide, "java/util/NoSuchElementException", X.2.2.1 _ (inBi 974 (by decide +kernel)), X.2.2.2.2.1.2.2.2.2.2.2.2.2.2.2.2⟩) (by decide) (by decide) (X.2.2.1 _ (inBi 557 (by decide +kernel))) (am_nw X (w := .castable (exN 1) "java/lang/IllegalArgumentException") (inNi 572 (by decide +kernel))) a1 a2 a3 ?_
      refine lv_astore (lv' := [(6, .ref q9), (0, .ref x0), (1, .int x1), (2, .int x2), (3, .int x3), (4, .int x4), (5, .ref x5)]) hx hb dL_power_21 hl (by decide) rfl (fun ls hl => ?_)
      refine lv_iconst (v := 2) hx hb dL_power_23 (by decide) ?_
      exact vx_ret (am_riG (cells := 1) (slots := 6) X hS hr rfl dL_power_24 hlocks)
set_option maxHeartbeats 4000000 in
set_option maxRecDepth 100000 in
theorem cL_green_ok {l : Launch} {E : Ev} (hl0 : l.stackTraces = false) {x0 : Nat} {x1 : Int32} {x2 : Int32} {x3 : Int32} {x4 : Nat} {mm : Mem} {r : Int32} {mm1 : Mem} (hf : fL_green (eS E) x0 x1 x2 x3 x4 mm = some (r, mm1)) : CtH l yL_green cL_green 6 (some .int) [(0, 11, 14, 13)] 9 169 E [.ref x0, .int x1, .int x2, .int x3, .ref x4] mm r mm1 := by
  refine vx_ofWH (cc := cL_green) (maxL := 6) (ret := some .int) (hh := [(0, 11, 14, 13)]) (by decide) rfl ?_
  intro p e s m args below meth c s₁ B hml hv
  obtain ⟨rfl, X, hS, hr, hlocks, htab⟩ := am_inH B hv
  refine am_entry (Nat.le_of_ble_eq_true rfl) (fun ls hl => ?_)
  have hl : lv_has ls 6 [(0, .ref x0), (1, .int x1), (2, .int x2), (3, .int x3), (4, .ref x4)] := hl
  have hx := X.1
  have hb := X.2.1
  unfold fL_green at hf
  obtain ⟨u0, h0, hf⟩ := bs hf
  obtain ⟨_, hrc⟩ := isO_n h0
  obtain ⟨u, m1, h1, hf⟩ := bs2 hf
  refine lv_aload hx hb dL_green_0 (lv_at hl 4 rfl) ?_
  refine lv_iconst (v := 0) hx hb dL_green_2 (by decide) ?_
  refine lv_aload_n hx hb dL_green_3 rfl (lv_at hl 0 rfl) ?_
  refine lv_iload_n hx hb dL_green_4 rfl (lv_at hl 1 rfl) ?_
  refine lv_iload_n hx hb dL_green_5 rfl (lv_at hl 2 rfl) ?_
  refine lv_iload_n hx hb dL_green_6 rfl (lv_at hl 3 rfl) ?_
  rcases u with r1 | k1
  · have hf := sme_l hf
    obtain ⟨m2, h2, hf⟩ := bs hf
    cases hf
    refine am_endl hS (am_runV (As := [.int x1, .int x2, .int x3]) X (hml.trans hl.1.symm) hS (cX11_green_ok (l := l) (E := E) hl0 h1) mv_L_78 hrc rfl ⟨Nat.le_of_ble_eq_true rfl, Nat.le_of_ble_eq_true rfl⟩ ⟨Nat.zero_le _, Nat.zero_le _⟩ rfl rfl (Nat.le_of_ble_eq_true rfl) dL_green_7) (fun H locs hS => ?_)
    refine am_lst X hS h2 dL_green_10 (fun H locs hS => ?_)
    refine lv_goto (tgt := 18) hx hb dL_green_11 (by decide) ?_
    refine lv_iconst (v := 0) hx hb dL_green_18 (by decide) ?_
    refine W.widen (k := 1) (n := 6) (by omega) (by omega) ?_
    exact vx_ret (am_riG X hS hr rfl dL_green_19 hlocks)
  · have hf := sme_r hf
    obtain ⟨z, h3, hf⟩ := bs hf
    cases hf
    obtain ⟨rfl, rfl⟩ := hcI_n h3
    refine am_thrV (As := [.int x1, .int x2, .int x3]) X (hml.trans hl.1.symm) hS (cX11_green_thr (l := l) (E := E) hl0 h1) mv_L_78 hrc rfl ⟨Nat.le_of_ble_eq_true rfl, Nat.le_of_ble_eq_true rfl⟩ ⟨Nat.le_of_ble_eq_true rfl, Nat.le_of_ble_eq_true rfl⟩ rfl rfl (Nat.le_of_ble_eq_true rfl) dL_green_7 (fun H locs ce q9 hS a1 a2 a3 => ?_)
    refine vx_catch (own := RL) (name := "java/lang/IllegalArgumentException") X.2.2.2.1 [] ⟨0, 11, 14, 13⟩ [] (by rw [htab]; rfl) (fun z hz => nomatch hz) (by decide) (by decide) (X.2.2.1 _ (inBi 557 (by decide +kernel))) (am_nw X (w := .castable (exN 1) "java/lang/IllegalArgumentException") (inNi 572 (by decide +kernel))) a1 a2 a3 ?_
    refine lv_astore (lv' := [(5, .ref q9), (0, .ref x0), (1, .int x1), (2, .int x2), (3, .int x3), (4, .ref x4)]) hx hb dL_green_14 hl (by decide) rfl (fun ls hl => ?_)
    refine lv_iconst (v := 1) hx hb dL_green_16 (by decide) ?_
    exact vx_ret (am_riG (cells := 1) (slots := 6) X hS hr rfl dL_green_17 hlocks)
set_option maxHeartbeats 4000000 in
set_option maxRecDepth 100000 in
theorem cL_lookers_ok {l : Launch} {E : Ev} (hl0 : l.stackTraces = false) {x0 : Nat} {x1 : Int32} {x2 : Int32} {x3 : Int32} {x4 : Nat} {mm : Mem} {r : Int32} {mm1 : Mem} (hf : fL_lookers (eS E) x0 x1 x2 x3 x4 mm = some (r, mm1)) : CtH l yL_lookers cL_lookers 6 (some .int) [(0, 12, 15, 13)] 9 169 E [.ref x0, .int x1, .int x2, .int x3, .ref x4] mm r mm1 := by
  refine vx_ofWH (cc := cL_lookers) (maxL := 6) (ret := some .int) (hh := [(0, 12, 15, 13)]) (by decide) rfl ?_
  intro p e s m args below meth c s₁ B hml hv
  obtain ⟨rfl, X, hS, hr, hlocks, htab⟩ := am_inH B hv
  refine am_entry (Nat.le_of_ble_eq_true rfl) (fun ls hl => ?_)
  have hl : lv_has ls 6 [(0, .ref x0), (1, .int x1), (2, .int x2), (3, .int x3), (4, .ref x4)] := hl
  have hx := X.1
  have hb := X.2.1
  unfold fL_lookers at hf
  obtain ⟨u0, h0, hf⟩ := bs hf
  obtain ⟨_, hrc⟩ := isO_n h0
  obtain ⟨u, m1, h1, hf⟩ := bs2 hf
  refine lv_aload hx hb dL_lookers_0 (lv_at hl 4 rfl) ?_
  refine lv_iconst (v := 0) hx hb dL_lookers_2 (by decide) ?_
  refine lv_aload_n hx hb dL_lookers_3 rfl (lv_at hl 0 rfl) ?_
  refine lv_iload_n hx hb dL_lookers_4 rfl (lv_at hl 1 rfl) ?_
  refine lv_iload_n hx hb dL_lookers_5 rfl (lv_at hl 2 rfl) ?_
  refine lv_iload_n hx hb dL_lookers_6 rfl (lv_at hl 3 rfl) ?_
  rcases u with r1 | k1
  · have hf := sme_l hf
    obtain ⟨m2, h2, hf⟩ := bs hf
    cases hf
    refine am_endi hS (am_runV (As := [.int x1, .int x2, .int x3]) X (hml.trans hl.1.symm) hS (cX11_lookers_ok (l := l) (E := E) hl0 h1) mv_L_82 hrc rfl ⟨Nat.le_of_ble_eq_true rfl, Nat.le_of_ble_eq_true rfl⟩ ⟨Nat.zero_le _, Nat.zero_le _⟩ rfl rfl (Nat.le_of_ble_eq_true rfl) dL_lookers_7) (fun H locs hS => ?_)
    refine lv_i2l (v := r1.toInt64) hx hb dL_lookers_10 rfl ?_
    refine am_lst X hS h2 dL_lookers_11 (fun H locs hS => ?_)
    refine lv_goto (tgt := 19) hx hb dL_lookers_12 (by decide) ?_
    refine lv_iconst (v := 0) hx hb dL_lookers_19 (by decide) ?_
    refine W.widen (k := 1) (n := 6) (by omega) (by omega) ?_
    exact vx_ret (am_riG X hS hr rfl dL_lookers_20 hlocks)
  · have hf := sme_r hf
    obtain ⟨z, h3, hf⟩ := bs hf
    cases hf
    obtain ⟨rfl, rfl⟩ := hcI_n h3
    refine am_thrV (As := [.int x1, .int x2, .int x3]) X (hml.trans hl.1.symm) hS (cX11_lookers_thr (l := l) (E := E) hl0 h1) mv_L_82 hrc rfl ⟨Nat.le_of_ble_eq_true rfl, Nat.le_of_ble_eq_true rfl⟩ ⟨Nat.le_of_ble_eq_true rfl, Nat.le_of_ble_eq_true rfl⟩ rfl rfl (Nat.le_of_ble_eq_true rfl) dL_lookers_7 (fun H locs ce q9 hS a1 a2 a3 => ?_)
    refine vx_catch (own := RL) (name := "java/lang/IllegalArgumentException") X.2.2.2.1 [] ⟨0, 12, 15, 13⟩ [] (by rw [htab]; rfl) (fun z hz => nomatch hz) (by decide) (by decide) (X.2.2.1 _ (inBi 557 (by decide +kernel))) (am_nw X (w := .castable (exN 1) "java/lang/IllegalArgumentException") (inNi 572 (by decide +kernel))) a1 a2 a3 ?_
    refine lv_astore (lv' := [(5, .ref q9), (0, .ref x0), (1, .int x1), (2, .int x2), (3, .int x3), (4, .ref x4)]) hx hb dL_lookers_15 hl (by decide) rfl (fun ls hl => ?_)
    refine lv_iconst (v := 1) hx hb dL_lookers_17 (by decide) ?_
    exact vx_ret (am_riG (cells := 1) (slots := 6) X hS hr rfl dL_lookers_18 hlocks)
set_option maxHeartbeats 4000000 in
set_option maxRecDepth 100000 in
theorem cL_light_ok {l : Launch} {E : Ev} (hl0 : l.stackTraces = false) {x0 : Nat} {x1 : Int32} {x2 : Int32} {x3 : Int32} {x4 : Nat} {mm : Mem} {r : Int32} {mm1 : Mem} (hf : fL_light (eS E) x0 x1 x2 x3 x4 mm = some (r, mm1)) : CtH l yL_light cL_light 6 (some .int) [(0, 12, 15, 31), (0, 12, 19, 13)] 9 166 E [.ref x0, .int x1, .int x2, .int x3, .ref x4] mm r mm1 := by
  refine vx_ofWH (cc := cL_light) (maxL := 6) (ret := some .int) (hh := [(0, 12, 15, 31), (0, 12, 19, 13)]) (by decide) rfl ?_
  intro p e s m args below meth c s₁ B hml hv
  obtain ⟨rfl, X, hS, hr, hlocks, htab⟩ := am_inH B hv
  refine am_entry (Nat.le_of_ble_eq_true rfl) (fun ls hl => ?_)
  have hl : lv_has ls 6 [(0, .ref x0), (1, .int x1), (2, .int x2), (3, .int x3), (4, .ref x4)] := hl
  have hx := X.1
  have hb := X.2.1
  unfold fL_light at hf
  obtain ⟨u0, h0, hf⟩ := bs hf
  obtain ⟨_, hrc⟩ := isO_n h0
  obtain ⟨u, m1, h1, hf⟩ := bs2 hf
  refine lv_aload hx hb dL_light_0 (lv_at hl 4 rfl) ?_
  refine lv_iconst (v := 0) hx hb dL_light_2 (by decide) ?_
  refine lv_aload_n hx hb dL_light_3 rfl (lv_at hl 0 rfl) ?_
  refine lv_iload_n hx hb dL_light_4 rfl (lv_at hl 1 rfl) ?_
  refine lv_iload_n hx hb dL_light_5 rfl (lv_at hl 2 rfl) ?_
  refine lv_iload_n hx hb dL_light_6 rfl (lv_at hl 3 rfl) ?_
  rcases u with r1 | k1
  · have hf := sme_l hf
    obtain ⟨m2, h2, hf⟩ := bs hf
    cases hf
    refine am_endi hS (am_runV (As := [.int x1, .int x2, .int x3]) X (hml.trans hl.1.symm) hS (cX11_light_ok (l := l) (E := E) hl0 h1) mv_L_85 hrc rfl ⟨Nat.le_of_ble_eq_true rfl, Nat.le_of_ble_eq_true rfl⟩ ⟨Nat.zero_le _, Nat.zero_le _⟩ rfl rfl (Nat.le_of_ble_eq_true rfl) dL_light_7) (fun H locs hS => ?_)
    refine lv_i2l (v := r1.toInt64) hx hb dL_light_10 rfl ?_
    refine am_lst X hS h2 dL_light_11 (fun H locs hS => ?_)
    refine lv_goto (tgt := 23) hx hb dL_light_12 (by decide) ?_
    refine lv_iconst (v := 0) hx hb dL_light_23 (by decide) ?_
    refine W.widen (k := 1) (n := 6) (by omega) (by omega) ?_
    exact vx_ret (am_riG X hS hr rfl dL_light_24 hlocks)
  · have hf := sme_r hf
    obtain ⟨z, h3, hf⟩ := bs hf
    cases hf
    rcases hcB_n h3 with ⟨rfl, rfl⟩ | ⟨rfl, rfl⟩
    · refine am_thrV (As := [.int x1, .int x2, .int x3]) X (hml.trans hl.1.symm) hS (cX11_light_thr (l := l) (E := E) hl0 h1) mv_L_85 hrc rfl ⟨Nat.le_of_ble_eq_true rfl, Nat.le_of_ble_eq_true rfl⟩ ⟨Nat.le_of_ble_eq_true rfl, Nat.le_of_ble_eq_true rfl⟩ rfl rfl (Nat.le_of_ble_eq_true rfl) dL_light_7 (fun H locs ce q9 hS a1 a2 a3 => ?_)
      refine vx_catch (own := RL) (name := "java/util/NoSuchElementException") X.2.2.2.1 [] ⟨0, 12, 15, 31⟩ [⟨0, 12, 19, 13⟩] (by rw [htab]; rfl) (fun z hz => nomatch hz) (by decide) (by decide) (X.2.2.1 _ (inBi 974 (by decide +kernel))) (am_nw X (w := .castable (exN 0) "java/util/NoSuchElementException") (inNi 989 (by decide +kernel))) a1 a2 a3 ?_
      refine lv_astore (lv' := [(5, .ref q9), (0, .ref x0), (1, .int x1), (2, .int x2), (3, .int x3), (4, .ref x4)]) hx hb dL_light_15 hl (by decide) rfl (fun ls hl => ?_)
      refine lv_iconst (v := 1) hx hb dL_light_17 (by decide) ?_
      exact vx_ret (am_riG (cells := 1) (slots := 6) X hS hr rfl dL_light_18 hlocks)
    · refine am_thrV (As := [.int x1, .int x2, .int x3]) X (hml.trans hl.1.symm) hS (cX11_light_thr (l := l) (E := E) hl0 h1) mv_L_85 hrc rfl ⟨Nat.le_of_ble_eq_true rfl, Nat.le_of_ble_eq_true rfl⟩ ⟨Nat.le_of_ble_eq_true rfl, Nat.le_of_ble_eq_true rfl⟩ rfl rfl (Nat.le_of_ble_eq_true rfl) dL_light_7 (fun H locs ce q9 hS a1 a2 a3 => ?_)
      refine vx_catch (own := RL) (name := "java/lang/IllegalArgumentException") X.2.2.2.1 [⟨0, 12, 15, 31⟩] ⟨0, 12, 19, 13⟩ [] (by rw [htab]; rfl) (fun z hz => by cases List.mem_singleton.mp hz; exact Or.inr ⟨by decide, "java/util/NoSuchElementException", X.2.2.1 _ (inBi 974 (by decide +kernel)), X.2.2.2.2.1.2.2.2.2.2.2.2.2.2.2.2⟩) (by decide) (by decide) (X.2.2.1 _ (inBi 557 (by decide +kernel))) (am_nw X (w := .castable (exN 1) "java/lang/IllegalArgumentException") (inNi 572 (by decide +kernel))) a1 a2 a3 ?_
      refine lv_astore (lv' := [(5, .ref q9), (0, .ref x0), (1, .int x1), (2, .int x2), (3, .int x3), (4, .ref x4)]) hx hb dL_light_19 hl (by decide) rfl (fun ls hl => ?_)
      refine lv_iconst (v := 2) hx hb dL_light_21 (by decide) ?_
      exact vx_ret (am_riG (cells := 1) (slots := 6) X hS hr rfl dL_light_22 hlocks)
set_option maxHeartbeats 4000000 in
set_option maxRecDepth 100000 in
theorem cL_broadest_ok {l : Launch} {E : Ev} (hl0 : l.stackTraces = false) {x0 : Nat} {x1 : Int32} {x2 : Nat} {mm : Mem} {r : Int32} {mm1 : Mem} (hf : fL_broadest (eS E) x0 x1 x2 mm = some (r, mm1)) : CtH l yL_broadest cL_broadest 4 (some .int) [(0, 9, 12, 13)] 9 166 E [.ref x0, .int x1, .ref x2] mm r mm1 := by
  refine vx_ofWH (cc := cL_broadest) (maxL := 4) (ret := some .int) (hh := [(0, 9, 12, 13)]) (by decide) rfl ?_
  intro p e s m args below meth c s₁ B hml hv
  obtain ⟨rfl, X, hS, hr, hlocks, htab⟩ := am_inH B hv
  refine am_entry (Nat.le_of_ble_eq_true rfl) (fun ls hl => ?_)
  have hl : lv_has ls 4 [(0, .ref x0), (1, .int x1), (2, .ref x2)] := hl
  have hx := X.1
  have hb := X.2.1
  unfold fL_broadest at hf
  obtain ⟨u0, h0, hf⟩ := bs hf
  obtain ⟨_, hrc⟩ := isO_n h0
  obtain ⟨u, m1, h1, hf⟩ := bs2 hf
  refine lv_aload_n hx hb dL_broadest_0 rfl (lv_at hl 2 rfl) ?_
  refine lv_iconst (v := 0) hx hb dL_broadest_1 (by decide) ?_
  refine lv_aload_n hx hb dL_broadest_2 rfl (lv_at hl 0 rfl) ?_
  refine lv_iload_n hx hb dL_broadest_3 rfl (lv_at hl 1 rfl) ?_
  rcases u with r1 | k1
  · have hf := sme_l hf
    obtain ⟨m2, h2, hf⟩ := bs hf
    cases hf
    refine am_endi hS (am_runV (As := [.int x1]) X (hml.trans hl.1.symm) hS (cX11_broadest_ok (l := l) (E := E) hl0 h1) mv_L_88 hrc rfl ⟨Nat.le_of_ble_eq_true rfl, Nat.le_of_ble_eq_true rfl⟩ ⟨Nat.zero_le _, Nat.zero_le _⟩ rfl rfl (Nat.le_of_ble_eq_true rfl) dL_broadest_4) (fun H locs hS => ?_)
    refine lv_i2l (v := r1.toInt64) hx hb dL_broadest_7 rfl ?_
    refine am_lst X hS h2 dL_broadest_8 (fun H locs hS => ?_)
    refine lv_goto (tgt := 15) hx hb dL_broadest_9 (by decide) ?_
    refine lv_iconst (v := 0) hx hb dL_broadest_15 (by decide) ?_
    refine W.widen (k := 1) (n := 6) (by omega) (by omega) ?_
    exact vx_ret (am_riG X hS hr rfl dL_broadest_16 hlocks)
  · have hf := sme_r hf
    obtain ⟨z, h3, hf⟩ := bs hf
    cases hf
    obtain ⟨rfl, rfl⟩ := hcI_n h3
    refine am_thrV (As := [.int x1]) X (hml.trans hl.1.symm) hS (cX11_broadest_thr (l := l) (E := E) hl0 h1) mv_L_88 hrc rfl ⟨Nat.le_of_ble_eq_true rfl, Nat.le_of_ble_eq_true rfl⟩ ⟨Nat.le_of_ble_eq_true rfl, Nat.le_of_ble_eq_true rfl⟩ rfl rfl (Nat.le_of_ble_eq_true rfl) dL_broadest_4 (fun H locs ce q9 hS a1 a2 a3 => ?_)
    refine vx_catch (own := RL) (name := "java/lang/IllegalArgumentException") X.2.2.2.1 [] ⟨0, 9, 12, 13⟩ [] (by rw [htab]; rfl) (fun z hz => nomatch hz) (by decide) (by decide) (X.2.2.1 _ (inBi 557 (by decide +kernel))) (am_nw X (w := .castable (exN 1) "java/lang/IllegalArgumentException") (inNi 572 (by decide +kernel))) a1 a2 a3 ?_
    refine lv_astore_n (lv' := [(3, .ref q9), (0, .ref x0), (1, .int x1), (2, .ref x2)]) hx hb dL_broadest_12 rfl hl (by decide) rfl (fun ls hl => ?_)
    refine lv_iconst (v := 1) hx hb dL_broadest_13 (by decide) ?_
    exact vx_ret (am_riG (cells := 1) (slots := 6) X hS hr rfl dL_broadest_14 hlocks)
set_option maxHeartbeats 4000000 in
set_option maxRecDepth 100000 in
theorem cL_strongest_ok {l : Launch} {E : Ev} (hl0 : l.stackTraces = false) {x0 : Nat} {x1 : Int32} {x2 : Int32} {x3 : Nat} {mm : Mem} {r : Int32} {mm1 : Mem} (hf : fL_strongest (eS E) x0 x1 x2 x3 mm = some (r, mm1)) : CtH l yL_strongest cL_strongest 5 (some .int) [(0, 10, 13, 31), (0, 10, 17, 13)] 9 164 E [.ref x0, .int x1, .int x2, .ref x3] mm r mm1 := by
  refine vx_ofWH (cc := cL_strongest) (maxL := 5) (ret := some .int) (hh := [(0, 10, 13, 31), (0, 10, 17, 13)]) (by decide) rfl ?_
  intro p e s m args below meth c s₁ B hml hv
  obtain ⟨rfl, X, hS, hr, hlocks, htab⟩ := am_inH B hv
  refine am_entry (Nat.le_of_ble_eq_true rfl) (fun ls hl => ?_)
  have hl : lv_has ls 5 [(0, .ref x0), (1, .int x1), (2, .int x2), (3, .ref x3)] := hl
  have hx := X.1
  have hb := X.2.1
  unfold fL_strongest at hf
  obtain ⟨u0, h0, hf⟩ := bs hf
  obtain ⟨_, hrc⟩ := isO_n h0
  obtain ⟨u, m1, h1, hf⟩ := bs2 hf
  refine lv_aload_n hx hb dL_strongest_0 rfl (lv_at hl 3 rfl) ?_
  refine lv_iconst (v := 0) hx hb dL_strongest_1 (by decide) ?_
  refine lv_aload_n hx hb dL_strongest_2 rfl (lv_at hl 0 rfl) ?_
  refine lv_iload_n hx hb dL_strongest_3 rfl (lv_at hl 1 rfl) ?_
  refine lv_iload_n hx hb dL_strongest_4 rfl (lv_at hl 2 rfl) ?_
  rcases u with r1 | k1
  · have hf := sme_l hf
    obtain ⟨m2, h2, hf⟩ := bs hf
    cases hf
    refine am_endi hS (am_runV (As := [.int x1, .int x2]) X (hml.trans hl.1.symm) hS (cX11_strongest_ok (l := l) (E := E) hl0 h1) mv_L_91 hrc rfl ⟨Nat.le_of_ble_eq_true rfl, Nat.le_of_ble_eq_true rfl⟩ ⟨Nat.zero_le _, Nat.zero_le _⟩ rfl rfl (Nat.le_of_ble_eq_true rfl) dL_strongest_5) (fun H locs hS => ?_)
    refine lv_i2l (v := r1.toInt64) hx hb dL_strongest_8 rfl ?_
    refine am_lst X hS h2 dL_strongest_9 (fun H locs hS => ?_)
    refine lv_goto (tgt := 21) hx hb dL_strongest_10 (by decide) ?_
    refine lv_iconst (v := 0) hx hb dL_strongest_21 (by decide) ?_
    refine W.widen (k := 1) (n := 6) (by omega) (by omega) ?_
    exact vx_ret (am_riG X hS hr rfl dL_strongest_22 hlocks)
  · have hf := sme_r hf
    obtain ⟨z, h3, hf⟩ := bs hf
    cases hf
    rcases hcB_n h3 with ⟨rfl, rfl⟩ | ⟨rfl, rfl⟩
    · refine am_thrV (As := [.int x1, .int x2]) X (hml.trans hl.1.symm) hS (cX11_strongest_thr (l := l) (E := E) hl0 h1) mv_L_91 hrc rfl ⟨Nat.le_of_ble_eq_true rfl, Nat.le_of_ble_eq_true rfl⟩ ⟨Nat.le_of_ble_eq_true rfl, Nat.le_of_ble_eq_true rfl⟩ rfl rfl (Nat.le_of_ble_eq_true rfl) dL_strongest_5 (fun H locs ce q9 hS a1 a2 a3 => ?_)
      refine vx_catch (own := RL) (name := "java/util/NoSuchElementException") X.2.2.2.1 [] ⟨0, 10, 13, 31⟩ [⟨0, 10, 17, 13⟩] (by rw [htab]; rfl) (fun z hz => nomatch hz) (by decide) (by decide) (X.2.2.1 _ (inBi 974 (by decide +kernel))) (am_nw X (w := .castable (exN 0) "java/util/NoSuchElementException") (inNi 989 (by decide +kernel))) a1 a2 a3 ?_
      refine lv_astore (lv' := [(4, .ref q9), (0, .ref x0), (1, .int x1), (2, .int x2), (3, .ref x3)]) hx hb dL_strongest_13 hl (by decide) rfl (fun ls hl => ?_)
      refine lv_iconst (v := 1) hx hb dL_strongest_15 (by decide) ?_
      exact vx_ret (am_riG (cells := 1) (slots := 6) X hS hr rfl dL_strongest_16 hlocks)
    · refine am_thrV (As := [.int x1, .int x2]) X (hml.trans hl.1.symm) hS (cX11_strongest_thr (l := l) (E := E) hl0 h1) mv_L_91 hrc rfl ⟨Nat.le_of_ble_eq_true rfl, Nat.le_of_ble_eq_true rfl⟩ ⟨Nat.le_of_ble_eq_true rfl, Nat.le_of_ble_eq_true rfl⟩ rfl rfl (Nat.le_of_ble_eq_true rfl) dL_strongest_5 (fun H locs ce q9 hS a1 a2 a3 => ?_)
      refine vx_catch (own := RL) (name := "java/lang/IllegalArgumentException") X.2.2.2.1 [⟨0, 10, 13, 31⟩] ⟨0, 10, 17, 13⟩ [] (by rw [htab]; rfl) (fun z hz => by cases List.mem_singleton.mp hz; exact Or.inr ⟨by decide, "java/util/NoSuchElementException", X.2.2.1 _ (inBi 974 (by decide +kernel)), X.2.2.2.2.1.2.2.2.2.2.2.2.2.2.2.2⟩) (by decide) (by decide) (X.2.2.1 _ (inBi 557 (by decide +kernel))) (am_nw X (w := .castable (exN 1) "java/lang/IllegalArgumentException") (inNi 572 (by decide +kernel))) a1 a2 a3 ?_
      refine lv_astore (lv' := [(4, .ref q9), (0, .ref x0), (1, .int x1), (2, .int x2), (3, .ref x3)]) hx hb dL_strongest_17 hl (by decide) rfl (fun ls hl => ?_)
      refine lv_iconst (v := 2) hx hb dL_strongest_19 (by decide) ?_
      exact vx_ret (am_riG (cells := 1) (slots := 6) X hS hr rfl dL_strongest_20 hlocks)
set_option maxHeartbeats 4000000 in
set_option maxRecDepth 100000 in
theorem cL_joins_ok {l : Launch} {E : Ev} (hl0 : l.stackTraces = false) {x0 : Nat} {x1 : Int32} {x2 : Int32} {x3 : Nat} {mm : Mem} {r : Int32} {mm1 : Mem} (hf : fL_joins (eS E) x0 x1 x2 x3 mm = some (r, mm1)) : CtH l yL_joins cL_joins 5 (some .int) [(0, 10, 13, 31)] 9 163 E [.ref x0, .int x1, .int x2, .ref x3] mm r mm1 := by
  refine vx_ofWH (cc := cL_joins) (maxL := 5) (ret := some .int) (hh := [(0, 10, 13, 31)]) (by decide) rfl ?_
  intro p e s m args below meth c s₁ B hml hv
  obtain ⟨rfl, X, hS, hr, hlocks, htab⟩ := am_inH B hv
  refine am_entry (Nat.le_of_ble_eq_true rfl) (fun ls hl => ?_)
  have hl : lv_has ls 5 [(0, .ref x0), (1, .int x1), (2, .int x2), (3, .ref x3)] := hl
  have hx := X.1
  have hb := X.2.1
  unfold fL_joins at hf
  obtain ⟨u0, h0, hf⟩ := bs hf
  obtain ⟨_, hrc⟩ := isO_n h0
  obtain ⟨u, m1, h1, hf⟩ := bs2 hf
  refine lv_aload_n hx hb dL_joins_0 rfl (lv_at hl 3 rfl) ?_
  refine lv_iconst (v := 0) hx hb dL_joins_1 (by decide) ?_
  refine lv_aload_n hx hb dL_joins_2 rfl (lv_at hl 0 rfl) ?_
  refine lv_iload_n hx hb dL_joins_3 rfl (lv_at hl 1 rfl) ?_
  refine lv_iload_n hx hb dL_joins_4 rfl (lv_at hl 2 rfl) ?_
  rcases u with r1 | k1
  · have hf := sme_l hf
    obtain ⟨m2, h2, hf⟩ := bs hf
    cases hf
    refine am_endi hS (am_runV (As := [.int x1, .int x2]) X (hml.trans hl.1.symm) hS (cX11_joins_ok (l := l) (E := E) hl0 h1) mv_L_94 hrc rfl ⟨Nat.le_of_ble_eq_true rfl, Nat.le_of_ble_eq_true rfl⟩ ⟨Nat.zero_le _, Nat.zero_le _⟩ rfl rfl (Nat.le_of_ble_eq_true rfl) dL_joins_5) (fun H locs hS => ?_)
    refine lv_i2l (v := r1.toInt64) hx hb dL_joins_8 rfl ?_
    refine am_lst X hS h2 dL_joins_9 (fun H locs hS => ?_)
    refine lv_goto (tgt := 17) hx hb dL_joins_10 (by decide) ?_
    refine lv_iconst (v := 0) hx hb dL_joins_17 (by decide) ?_
    refine W.widen (k := 1) (n := 6) (by omega) (by omega) ?_
    exact vx_ret (am_riG X hS hr rfl dL_joins_18 hlocks)
  · have hf := sme_r hf
    obtain ⟨z, h3, hf⟩ := bs hf
    cases hf
    obtain ⟨rfl, rfl⟩ := hcN_n h3
    refine am_thrV (As := [.int x1, .int x2]) X (hml.trans hl.1.symm) hS (cX11_joins_thr (l := l) (E := E) hl0 h1) mv_L_94 hrc rfl ⟨Nat.le_of_ble_eq_true rfl, Nat.le_of_ble_eq_true rfl⟩ ⟨Nat.le_of_ble_eq_true rfl, Nat.le_of_ble_eq_true rfl⟩ rfl rfl (Nat.le_of_ble_eq_true rfl) dL_joins_5 (fun H locs ce q9 hS a1 a2 a3 => ?_)
    refine vx_catch (own := RL) (name := "java/util/NoSuchElementException") X.2.2.2.1 [] ⟨0, 10, 13, 31⟩ [] (by rw [htab]; rfl) (fun z hz => nomatch hz) (by decide) (by decide) (X.2.2.1 _ (inBi 974 (by decide +kernel))) (am_nw X (w := .castable (exN 0) "java/util/NoSuchElementException") (inNi 989 (by decide +kernel))) a1 a2 a3 ?_
    refine lv_astore (lv' := [(4, .ref q9), (0, .ref x0), (1, .int x1), (2, .int x2), (3, .ref x3)]) hx hb dL_joins_13 hl (by decide) rfl (fun ls hl => ?_)
    refine lv_iconst (v := 1) hx hb dL_joins_15 (by decide) ?_
    exact vx_ret (am_riG (cells := 1) (slots := 6) X hS hr rfl dL_joins_16 hlocks)
set_option maxHeartbeats 4000000 in
set_option maxRecDepth 100000 in
theorem cL_blurs_ok {l : Launch} {E : Ev} (hl0 : l.stackTraces = false) {x0 : Nat} {x1 : Int32} {x2 : Nat} {mm : Mem} {r : Int32} {mm1 : Mem} (hf : fL_blurs (eS E) x0 x1 x2 mm = some (r, mm1)) : CtH l yL_blurs cL_blurs 4 (some .int) [(0, 9, 12, 31)] 9 164 E [.ref x0, .int x1, .ref x2] mm r mm1 := by
  refine vx_ofWH (cc := cL_blurs) (maxL := 4) (ret := some .int) (hh := [(0, 9, 12, 31)]) (by decide) rfl ?_
  intro p e s m args below meth c s₁ B hml hv
  obtain ⟨rfl, X, hS, hr, hlocks, htab⟩ := am_inH B hv
  refine am_entry (Nat.le_of_ble_eq_true rfl) (fun ls hl => ?_)
  have hl : lv_has ls 4 [(0, .ref x0), (1, .int x1), (2, .ref x2)] := hl
  have hx := X.1
  have hb := X.2.1
  unfold fL_blurs at hf
  obtain ⟨u0, h0, hf⟩ := bs hf
  obtain ⟨_, hrc⟩ := isO_n h0
  obtain ⟨u, m1, h1, hf⟩ := bs2 hf
  refine lv_aload_n hx hb dL_blurs_0 rfl (lv_at hl 2 rfl) ?_
  refine lv_iconst (v := 0) hx hb dL_blurs_1 (by decide) ?_
  refine lv_aload_n hx hb dL_blurs_2 rfl (lv_at hl 0 rfl) ?_
  refine lv_iload_n hx hb dL_blurs_3 rfl (lv_at hl 1 rfl) ?_
  rcases u with r1 | k1
  · have hf := sme_l hf
    obtain ⟨m2, h2, hf⟩ := bs hf
    cases hf
    refine am_endi hS (am_runV (As := [.int x1]) X (hml.trans hl.1.symm) hS (cX11_blurs_ok (l := l) (E := E) hl0 h1) mv_L_97 hrc rfl ⟨Nat.le_of_ble_eq_true rfl, Nat.le_of_ble_eq_true rfl⟩ ⟨Nat.zero_le _, Nat.zero_le _⟩ rfl rfl (Nat.le_of_ble_eq_true rfl) dL_blurs_4) (fun H locs hS => ?_)
    refine lv_i2l (v := r1.toInt64) hx hb dL_blurs_7 rfl ?_
    refine am_lst X hS h2 dL_blurs_8 (fun H locs hS => ?_)
    refine lv_goto (tgt := 15) hx hb dL_blurs_9 (by decide) ?_
    refine lv_iconst (v := 0) hx hb dL_blurs_15 (by decide) ?_
    refine W.widen (k := 1) (n := 6) (by omega) (by omega) ?_
    exact vx_ret (am_riG X hS hr rfl dL_blurs_16 hlocks)
  · have hf := sme_r hf
    obtain ⟨z, h3, hf⟩ := bs hf
    cases hf
    obtain ⟨rfl, rfl⟩ := hcN_n h3
    refine am_thrV (As := [.int x1]) X (hml.trans hl.1.symm) hS (cX11_blurs_thr (l := l) (E := E) hl0 h1) mv_L_97 hrc rfl ⟨Nat.le_of_ble_eq_true rfl, Nat.le_of_ble_eq_true rfl⟩ ⟨Nat.le_of_ble_eq_true rfl, Nat.le_of_ble_eq_true rfl⟩ rfl rfl (Nat.le_of_ble_eq_true rfl) dL_blurs_4 (fun H locs ce q9 hS a1 a2 a3 => ?_)
    refine vx_catch (own := RL) (name := "java/util/NoSuchElementException") X.2.2.2.1 [] ⟨0, 9, 12, 31⟩ [] (by rw [htab]; rfl) (fun z hz => nomatch hz) (by decide) (by decide) (X.2.2.1 _ (inBi 974 (by decide +kernel))) (am_nw X (w := .castable (exN 0) "java/util/NoSuchElementException") (inNi 989 (by decide +kernel))) a1 a2 a3 ?_
    refine lv_astore_n (lv' := [(3, .ref q9), (0, .ref x0), (1, .int x1), (2, .ref x2)]) hx hb dL_blurs_12 rfl hl (by decide) rfl (fun ls hl => ?_)
    refine lv_iconst (v := 1) hx hb dL_blurs_13 (by decide) ?_
    exact vx_ret (am_riG (cells := 1) (slots := 6) X hS hr rfl dL_blurs_14 hlocks)
set_option maxHeartbeats 4000000 in
set_option maxRecDepth 100000 in
theorem cL_lacks_ok {l : Launch} {E : Ev} (hl0 : l.stackTraces = false) {x0 : Nat} {x1 : Int32} {x2 : Int32} {x3 : Nat} {mm : Mem} {r : Int32} {mm1 : Mem} (hf : fL_lacks (eS E) x0 x1 x2 x3 mm = some (r, mm1)) : CtH l yL_lacks cL_lacks 5 (some .int) [(0, 10, 13, 31), (0, 10, 17, 13)] 9 164 E [.ref x0, .int x1, .int x2, .ref x3] mm r mm1 := by
  refine vx_ofWH (cc := cL_lacks) (maxL := 5) (ret := some .int) (hh := [(0, 10, 13, 31), (0, 10, 17, 13)]) (by decide) rfl ?_
  intro p e s m args below meth c s₁ B hml hv
  obtain ⟨rfl, X, hS, hr, hlocks, htab⟩ := am_inH B hv
  refine am_entry (Nat.le_of_ble_eq_true rfl) (fun ls hl => ?_)
  have hl : lv_has ls 5 [(0, .ref x0), (1, .int x1), (2, .int x2), (3, .ref x3)] := hl
  have hx := X.1
  have hb := X.2.1
  unfold fL_lacks at hf
  obtain ⟨u0, h0, hf⟩ := bs hf
  obtain ⟨_, hrc⟩ := isO_n h0
  obtain ⟨u, m1, h1, hf⟩ := bs2 hf
  refine lv_aload_n hx hb dL_lacks_0 rfl (lv_at hl 3 rfl) ?_
  refine lv_iconst (v := 0) hx hb dL_lacks_1 (by decide) ?_
  refine lv_aload_n hx hb dL_lacks_2 rfl (lv_at hl 0 rfl) ?_
  refine lv_iload_n hx hb dL_lacks_3 rfl (lv_at hl 1 rfl) ?_
  refine lv_iload_n hx hb dL_lacks_4 rfl (lv_at hl 2 rfl) ?_
  rcases u with r1 | k1
  · have hf := sme_l hf
    obtain ⟨m2, h2, hf⟩ := bs hf
    cases hf
    refine am_endi hS (am_runV (As := [.int x1, .int x2]) X (hml.trans hl.1.symm) hS (cX11_lacks_ok (l := l) (E := E) hl0 h1) mv_L_100 hrc rfl ⟨Nat.le_of_ble_eq_true rfl, Nat.le_of_ble_eq_true rfl⟩ ⟨Nat.zero_le _, Nat.zero_le _⟩ rfl rfl (Nat.le_of_ble_eq_true rfl) dL_lacks_5) (fun H locs hS => ?_)
    refine lv_i2l (v := r1.toInt64) hx hb dL_lacks_8 rfl ?_
    refine am_lst X hS h2 dL_lacks_9 (fun H locs hS => ?_)
    refine lv_goto (tgt := 21) hx hb dL_lacks_10 (by decide) ?_
    refine lv_iconst (v := 0) hx hb dL_lacks_21 (by decide) ?_
    refine W.widen (k := 1) (n := 6) (by omega) (by omega) ?_
    exact vx_ret (am_riG X hS hr rfl dL_lacks_22 hlocks)
  · have hf := sme_r hf
    obtain ⟨z, h3, hf⟩ := bs hf
    cases hf
    rcases hcB_n h3 with ⟨rfl, rfl⟩ | ⟨rfl, rfl⟩
    · refine am_thrV (As := [.int x1, .int x2]) X (hml.trans hl.1.symm) hS (cX11_lacks_thr (l := l) (E := E) hl0 h1) mv_L_100 hrc rfl ⟨Nat.le_of_ble_eq_true rfl, Nat.le_of_ble_eq_true rfl⟩ ⟨Nat.le_of_ble_eq_true rfl, Nat.le_of_ble_eq_true rfl⟩ rfl rfl (Nat.le_of_ble_eq_true rfl) dL_lacks_5 (fun H locs ce q9 hS a1 a2 a3 => ?_)
      refine vx_catch (own := RL) (name := "java/util/NoSuchElementException") X.2.2.2.1 [] ⟨0, 10, 13, 31⟩ [⟨0, 10, 17, 13⟩] (by rw [htab]; rfl) (fun z hz => nomatch hz) (by decide) (by decide) (X.2.2.1 _ (inBi 974 (by decide +kernel))) (am_nw X (w := .castable (exN 0) "java/util/NoSuchElementException") (inNi 989 (by decide +kernel))) a1 a2 a3 ?_
      refine lv_astore (lv' := [(4, .ref q9), (0, .ref x0), (1, .int x1), (2, .int x2), (3, .ref x3)]) hx hb dL_lacks_13 hl (by decide) rfl (fun ls hl => ?_)
      refine lv_iconst (v := 1) hx hb dL_lacks_15 (by decide) ?_
      exact vx_ret (am_riG (cells := 1) (slots := 6) X hS hr rfl dL_lacks_16 hlocks)
    · refine am_thrV (As := [.int x1, .int x2]) X (hml.trans hl.1.symm) hS (cX11_lacks_thr (l := l) (E := E) hl0 h1) mv_L_100 hrc rfl ⟨Nat.le_of_ble_eq_true rfl, Nat.le_of_ble_eq_true rfl⟩ ⟨Nat.le_of_ble_eq_true rfl, Nat.le_of_ble_eq_true rfl⟩ rfl rfl (Nat.le_of_ble_eq_true rfl) dL_lacks_5 (fun H locs ce q9 hS a1 a2 a3 => ?_)
      refine vx_catch (own := RL) (name := "java/lang/IllegalArgumentException") X.2.2.2.1 [⟨0, 10, 13, 31⟩] ⟨0, 10, 17, 13⟩ [] (by rw [htab]; rfl) (fun z hz => by cases List.mem_singleton.mp hz; exact Or.inr ⟨by decide, "java/util/NoSuchElementException", X.2.2.1 _ (inBi 974 (by decide +kernel)), X.2.2.2.2.1.2.2.2.2.2.2.2.2.2.2.2⟩) (by decide) (by decide) (X.2.2.1 _ (inBi 557 (by decide +kernel))) (am_nw X (w := .castable (exN 1) "java/lang/IllegalArgumentException") (inNi 572 (by decide +kernel))) a1 a2 a3 ?_
      refine lv_astore (lv' := [(4, .ref q9), (0, .ref x0), (1, .int x1), (2, .int x2), (3, .ref x3)]) hx hb dL_lacks_17 hl (by decide) rfl (fun ls hl => ?_)
      refine lv_iconst (v := 2) hx hb dL_lacks_19 (by decide) ?_
      exact vx_ret (am_riG (cells := 1) (slots := 6) X hS hr rfl dL_lacks_20 hlocks)
set_option maxHeartbeats 4000000 in
set_option maxRecDepth 100000 in
theorem cL_mates_ok {l : Launch} {E : Ev} (hl0 : l.stackTraces = false) {x0 : Nat} {x1 : Int32} {x2 : Nat} {mm : Mem} {r : Int32} {mm1 : Mem} (hf : fL_mates (eS E) x0 x1 x2 mm = some (r, mm1)) : CtH l yL_mates cL_mates 4 (some .int) [(0, 9, 12, 31)] 9 164 E [.ref x0, .int x1, .ref x2] mm r mm1 := by
  refine vx_ofWH (cc := cL_mates) (maxL := 4) (ret := some .int) (hh := [(0, 9, 12, 31)]) (by decide) rfl ?_
  intro p e s m args below meth c s₁ B hml hv
  obtain ⟨rfl, X, hS, hr, hlocks, htab⟩ := am_inH B hv
  refine am_entry (Nat.le_of_ble_eq_true rfl) (fun ls hl => ?_)
  have hl : lv_has ls 4 [(0, .ref x0), (1, .int x1), (2, .ref x2)] := hl
  have hx := X.1
  have hb := X.2.1
  unfold fL_mates at hf
  obtain ⟨u0, h0, hf⟩ := bs hf
  obtain ⟨_, hrc⟩ := isO_n h0
  obtain ⟨u, m1, h1, hf⟩ := bs2 hf
  refine lv_aload_n hx hb dL_mates_0 rfl (lv_at hl 2 rfl) ?_
  refine lv_iconst (v := 0) hx hb dL_mates_1 (by decide) ?_
  refine lv_aload_n hx hb dL_mates_2 rfl (lv_at hl 0 rfl) ?_
  refine lv_iload_n hx hb dL_mates_3 rfl (lv_at hl 1 rfl) ?_
  rcases u with r1 | k1
  · have hf := sme_l hf
    obtain ⟨m2, h2, hf⟩ := bs hf
    cases hf
    refine am_endi hS (am_runV (As := [.int x1]) X (hml.trans hl.1.symm) hS (cX11_mates_ok (l := l) (E := E) hl0 h1) mv_L_103 hrc rfl ⟨Nat.le_of_ble_eq_true rfl, Nat.le_of_ble_eq_true rfl⟩ ⟨Nat.zero_le _, Nat.zero_le _⟩ rfl rfl (Nat.le_of_ble_eq_true rfl) dL_mates_4) (fun H locs hS => ?_)
    refine lv_i2l (v := r1.toInt64) hx hb dL_mates_7 rfl ?_
    refine am_lst X hS h2 dL_mates_8 (fun H locs hS => ?_)
    refine lv_goto (tgt := 15) hx hb dL_mates_9 (by decide) ?_
    refine lv_iconst (v := 0) hx hb dL_mates_15 (by decide) ?_
    refine W.widen (k := 1) (n := 6) (by omega) (by omega) ?_
    exact vx_ret (am_riG X hS hr rfl dL_mates_16 hlocks)
  · have hf := sme_r hf
    obtain ⟨z, h3, hf⟩ := bs hf
    cases hf
    obtain ⟨rfl, rfl⟩ := hcN_n h3
    refine am_thrV (As := [.int x1]) X (hml.trans hl.1.symm) hS (cX11_mates_thr (l := l) (E := E) hl0 h1) mv_L_103 hrc rfl ⟨Nat.le_of_ble_eq_true rfl, Nat.le_of_ble_eq_true rfl⟩ ⟨Nat.le_of_ble_eq_true rfl, Nat.le_of_ble_eq_true rfl⟩ rfl rfl (Nat.le_of_ble_eq_true rfl) dL_mates_4 (fun H locs ce q9 hS a1 a2 a3 => ?_)
    refine vx_catch (own := RL) (name := "java/util/NoSuchElementException") X.2.2.2.1 [] ⟨0, 9, 12, 31⟩ [] (by rw [htab]; rfl) (fun z hz => nomatch hz) (by decide) (by decide) (X.2.2.1 _ (inBi 974 (by decide +kernel))) (am_nw X (w := .castable (exN 0) "java/util/NoSuchElementException") (inNi 989 (by decide +kernel))) a1 a2 a3 ?_
    refine lv_astore_n (lv' := [(3, .ref q9), (0, .ref x0), (1, .int x1), (2, .ref x2)]) hx hb dL_mates_12 rfl hl (by decide) rfl (fun ls hl => ?_)
    refine lv_iconst (v := 1) hx hb dL_mates_13 (by decide) ?_
    exact vx_ret (am_riG (cells := 1) (slots := 6) X hS hr rfl dL_mates_14 hlocks)
set_option maxHeartbeats 4000000 in
set_option maxRecDepth 100000 in
theorem cL_first_ok {l : Launch} {E : Ev} (hl0 : l.stackTraces = false) {x0 : Nat} {x1 : Int32} {x2 : Nat} {mm : Mem} {r : Int32} {mm1 : Mem} (hf : fL_first (eS E) x0 x1 x2 mm = some (r, mm1)) : CtH l yL_first cL_first 4 (some .int) [(0, 9, 12, 31)] 9 165 E [.ref x0, .int x1, .ref x2] mm r mm1 := by
  refine vx_ofWH (cc := cL_first) (maxL := 4) (ret := some .int) (hh := [(0, 9, 12, 31)]) (by decide) rfl ?_
  intro p e s m args below meth c s₁ B hml hv
  obtain ⟨rfl, X, hS, hr, hlocks, htab⟩ := am_inH B hv
  refine am_entry (Nat.le_of_ble_eq_true rfl) (fun ls hl => ?_)
  have hl : lv_has ls 4 [(0, .ref x0), (1, .int x1), (2, .ref x2)] := hl
  have hx := X.1
  have hb := X.2.1
  unfold fL_first at hf
  obtain ⟨u0, h0, hf⟩ := bs hf
  obtain ⟨_, hrc⟩ := isO_n h0
  obtain ⟨u, m1, h1, hf⟩ := bs2 hf
  refine lv_aload_n hx hb dL_first_0 rfl (lv_at hl 2 rfl) ?_
  refine lv_iconst (v := 0) hx hb dL_first_1 (by decide) ?_
  refine lv_aload_n hx hb dL_first_2 rfl (lv_at hl 0 rfl) ?_
  refine lv_iload_n hx hb dL_first_3 rfl (lv_at hl 1 rfl) ?_
  rcases u with r1 | k1
  · have hf := sme_l hf
    obtain ⟨m2, h2, hf⟩ := bs hf
    cases hf
    refine am_endi hS (am_runV (As := [.int x1]) X (hml.trans hl.1.symm) hS (cX11_first_ok (l := l) (E := E) hl0 h1) mv_L_106 hrc rfl ⟨Nat.le_of_ble_eq_true rfl, Nat.le_of_ble_eq_true rfl⟩ ⟨Nat.zero_le _, Nat.zero_le _⟩ rfl rfl (Nat.le_of_ble_eq_true rfl) dL_first_4) (fun H locs hS => ?_)
    refine lv_i2l (v := r1.toInt64) hx hb dL_first_7 rfl ?_
    refine am_lst X hS h2 dL_first_8 (fun H locs hS => ?_)
    refine lv_goto (tgt := 15) hx hb dL_first_9 (by decide) ?_
    refine lv_iconst (v := 0) hx hb dL_first_15 (by decide) ?_
    refine W.widen (k := 1) (n := 6) (by omega) (by omega) ?_
    exact vx_ret (am_riG X hS hr rfl dL_first_16 hlocks)
  · have hf := sme_r hf
    obtain ⟨z, h3, hf⟩ := bs hf
    cases hf
    obtain ⟨rfl, rfl⟩ := hcN_n h3
    refine am_thrV (As := [.int x1]) X (hml.trans hl.1.symm) hS (cX11_first_thr (l := l) (E := E) hl0 h1) mv_L_106 hrc rfl ⟨Nat.le_of_ble_eq_true rfl, Nat.le_of_ble_eq_true rfl⟩ ⟨Nat.le_of_ble_eq_true rfl, Nat.le_of_ble_eq_true rfl⟩ rfl rfl (Nat.le_of_ble_eq_true rfl) dL_first_4 (fun H locs ce q9 hS a1 a2 a3 => ?_)
    refine vx_catch (own := RL) (name := "java/util/NoSuchElementException") X.2.2.2.1 [] ⟨0, 9, 12, 31⟩ [] (by rw [htab]; rfl) (fun z hz => nomatch hz) (by decide) (by decide) (X.2.2.1 _ (inBi 974 (by decide +kernel))) (am_nw X (w := .castable (exN 0) "java/util/NoSuchElementException") (inNi 989 (by decide +kernel))) a1 a2 a3 ?_
    refine lv_astore_n (lv' := [(3, .ref q9), (0, .ref x0), (1, .int x1), (2, .ref x2)]) hx hb dL_first_12 rfl hl (by decide) rfl (fun ls hl => ?_)
    refine lv_iconst (v := 1) hx hb dL_first_13 (by decide) ?_
    exact vx_ret (am_riG (cells := 1) (slots := 6) X hS hr rfl dL_first_14 hlocks)
set_option maxHeartbeats 4000000 in
set_option maxRecDepth 100000 in
theorem cL_halo_ok {l : Launch} {E : Ev} (hl0 : l.stackTraces = false) {x0 : Nat} {x1 : Int32} {x2 : Int32} {x3 : Nat} {mm : Mem} {r : Int32} {mm1 : Mem} (hf : fL_halo (eS E) x0 x1 x2 x3 mm = some (r, mm1)) : CtH l yL_halo cL_halo 5 (some .int) [(0, 10, 13, 13)] 9 163 E [.ref x0, .int x1, .int x2, .ref x3] mm r mm1 := by
  refine vx_ofWH (cc := cL_halo) (maxL := 5) (ret := some .int) (hh := [(0, 10, 13, 13)]) (by decide) rfl ?_
  intro p e s m args below meth c s₁ B hml hv
  obtain ⟨rfl, X, hS, hr, hlocks, htab⟩ := am_inH B hv
  refine am_entry (Nat.le_of_ble_eq_true rfl) (fun ls hl => ?_)
  have hl : lv_has ls 5 [(0, .ref x0), (1, .int x1), (2, .int x2), (3, .ref x3)] := hl
  have hx := X.1
  have hb := X.2.1
  unfold fL_halo at hf
  obtain ⟨u0, h0, hf⟩ := bs hf
  obtain ⟨_, hrc⟩ := isO_n h0
  obtain ⟨u, m1, h1, hf⟩ := bs2 hf
  refine lv_aload_n hx hb dL_halo_0 rfl (lv_at hl 3 rfl) ?_
  refine lv_iconst (v := 0) hx hb dL_halo_1 (by decide) ?_
  refine lv_aload_n hx hb dL_halo_2 rfl (lv_at hl 0 rfl) ?_
  refine lv_iload_n hx hb dL_halo_3 rfl (lv_at hl 1 rfl) ?_
  refine lv_iload_n hx hb dL_halo_4 rfl (lv_at hl 2 rfl) ?_
  rcases u with r1 | k1
  · have hf := sme_l hf
    obtain ⟨m2, h2, hf⟩ := bs hf
    cases hf
    refine am_endi hS (am_runV (As := [.int x1, .int x2]) X (hml.trans hl.1.symm) hS (cX11_halo_ok (l := l) (E := E) hl0 h1) mv_L_109 hrc rfl ⟨Nat.le_of_ble_eq_true rfl, Nat.le_of_ble_eq_true rfl⟩ ⟨Nat.zero_le _, Nat.zero_le _⟩ rfl rfl (Nat.le_of_ble_eq_true rfl) dL_halo_5) (fun H locs hS => ?_)
    refine lv_i2l (v := r1.toInt64) hx hb dL_halo_8 rfl ?_
    refine am_lst X hS h2 dL_halo_9 (fun H locs hS => ?_)
    refine lv_goto (tgt := 17) hx hb dL_halo_10 (by decide) ?_
    refine lv_iconst (v := 0) hx hb dL_halo_17 (by decide) ?_
    refine W.widen (k := 1) (n := 6) (by omega) (by omega) ?_
    exact vx_ret (am_riG X hS hr rfl dL_halo_18 hlocks)
  · have hf := sme_r hf
    obtain ⟨z, h3, hf⟩ := bs hf
    cases hf
    obtain ⟨rfl, rfl⟩ := hcI_n h3
    refine am_thrV (As := [.int x1, .int x2]) X (hml.trans hl.1.symm) hS (cX11_halo_thr (l := l) (E := E) hl0 h1) mv_L_109 hrc rfl ⟨Nat.le_of_ble_eq_true rfl, Nat.le_of_ble_eq_true rfl⟩ ⟨Nat.le_of_ble_eq_true rfl, Nat.le_of_ble_eq_true rfl⟩ rfl rfl (Nat.le_of_ble_eq_true rfl) dL_halo_5 (fun H locs ce q9 hS a1 a2 a3 => ?_)
    refine vx_catch (own := RL) (name := "java/lang/IllegalArgumentException") X.2.2.2.1 [] ⟨0, 10, 13, 13⟩ [] (by rw [htab]; rfl) (fun z hz => nomatch hz) (by decide) (by decide) (X.2.2.1 _ (inBi 557 (by decide +kernel))) (am_nw X (w := .castable (exN 1) "java/lang/IllegalArgumentException") (inNi 572 (by decide +kernel))) a1 a2 a3 ?_
    refine lv_astore (lv' := [(4, .ref q9), (0, .ref x0), (1, .int x1), (2, .int x2), (3, .ref x3)]) hx hb dL_halo_13 hl (by decide) rfl (fun ls hl => ?_)
    refine lv_iconst (v := 1) hx hb dL_halo_15 (by decide) ?_
    exact vx_ret (am_riG (cells := 1) (slots := 6) X hS hr rfl dL_halo_16 hlocks)
set_option maxHeartbeats 4000000 in
set_option maxRecDepth 100000 in
theorem cL_term_ok {l : Launch} {E : Ev} (hl0 : l.stackTraces = false) {x0 : Nat} {x1 : Int32} {x2 : Int32} {x3 : Int32} {x4 : Int32} {x5 : Nat} {mm : Mem} {r : Int32} {mm1 : Mem} (hf : fL_term (eS E) x0 x1 x2 x3 x4 x5 mm = some (r, mm1)) : CtH l yL_term cL_term 7 (some .int) [(0, 14, 17, 13)] 9 196 E [.ref x0, .int x1, .int x2, .int x3, .int x4, .ref x5] mm r mm1 := by
  refine vx_ofWH (cc := cL_term) (maxL := 7) (ret := some .int) (hh := [(0, 14, 17, 13)]) (by decide) rfl ?_
  intro p e s m args below meth c s₁ B hml hv
  obtain ⟨rfl, X, hS, hr, hlocks, htab⟩ := am_inH B hv
  refine am_entry (Nat.le_of_ble_eq_true rfl) (fun ls hl => ?_)
  have hl : lv_has ls 7 [(0, .ref x0), (1, .int x1), (2, .int x2), (3, .int x3), (4, .int x4), (5, .ref x5)] := hl
  have hx := X.1
  have hb := X.2.1
  unfold fL_term at hf
  obtain ⟨u0, h0, hf⟩ := bs hf
  obtain ⟨_, hrc⟩ := isO_n h0
  obtain ⟨u, m1, h1, hf⟩ := bs2 hf
  refine lv_aload hx hb dL_term_0 (lv_at hl 5 rfl) ?_
  refine lv_iconst (v := 0) hx hb dL_term_2 (by decide) ?_
  refine lv_aload_n hx hb dL_term_3 rfl (lv_at hl 0 rfl) ?_
  refine lv_iload_n hx hb dL_term_4 rfl (lv_at hl 1 rfl) ?_
  refine lv_iload_n hx hb dL_term_5 rfl (lv_at hl 2 rfl) ?_
  refine lv_iload_n hx hb dL_term_6 rfl (lv_at hl 3 rfl) ?_
  refine lv_iload hx hb dL_term_7 (lv_at hl 4 rfl) ?_
  rcases u with r1 | k1
  · have hf := sme_l hf
    obtain ⟨m2, h2, hf⟩ := bs hf
    cases hf
    refine am_endi hS (am_runV (As := [.int x1, .int x2, .int x3, .int x4]) X (hml.trans hl.1.symm) hS (cX11_term_ok (l := l) (E := E) hl0 h1) mv_L_112 hrc rfl ⟨Nat.le_of_ble_eq_true rfl, Nat.le_of_ble_eq_true rfl⟩ ⟨Nat.zero_le _, Nat.zero_le _⟩ rfl rfl (Nat.le_of_ble_eq_true rfl) dL_term_9) (fun H locs hS => ?_)
    refine lv_i2l (v := r1.toInt64) hx hb dL_term_12 rfl ?_
    refine am_lst X hS h2 dL_term_13 (fun H locs hS => ?_)
    refine lv_goto (tgt := 21) hx hb dL_term_14 (by decide) ?_
    refine lv_iconst (v := 0) hx hb dL_term_21 (by decide) ?_
    refine W.widen (k := 1) (n := 6) (by omega) (by omega) ?_
    exact vx_ret (am_riG X hS hr rfl dL_term_22 hlocks)
  · have hf := sme_r hf
    obtain ⟨z, h3, hf⟩ := bs hf
    cases hf
    obtain ⟨rfl, rfl⟩ := hcI_n h3
    refine am_thrV (As := [.int x1, .int x2, .int x3, .int x4]) X (hml.trans hl.1.symm) hS (cX11_term_thr (l := l) (E := E) hl0 h1) mv_L_112 hrc rfl ⟨Nat.le_of_ble_eq_true rfl, Nat.le_of_ble_eq_true rfl⟩ ⟨Nat.le_of_ble_eq_true rfl, Nat.le_of_ble_eq_true rfl⟩ rfl rfl (Nat.le_of_ble_eq_true rfl) dL_term_9 (fun H locs ce q9 hS a1 a2 a3 => ?_)
    refine vx_catch (own := RL) (name := "java/lang/IllegalArgumentException") X.2.2.2.1 [] ⟨0, 14, 17, 13⟩ [] (by rw [htab]; rfl) (fun z hz => nomatch hz) (by decide) (by decide) (X.2.2.1 _ (inBi 557 (by decide +kernel))) (am_nw X (w := .castable (exN 1) "java/lang/IllegalArgumentException") (inNi 572 (by decide +kernel))) a1 a2 a3 ?_
    refine lv_astore (lv' := [(6, .ref q9), (0, .ref x0), (1, .int x1), (2, .int x2), (3, .int x3), (4, .int x4), (5, .ref x5)]) hx hb dL_term_17 hl (by decide) rfl (fun ls hl => ?_)
    refine lv_iconst (v := 1) hx hb dL_term_19 (by decide) ?_
    exact vx_ret (am_riG (cells := 1) (slots := 6) X hS hr rfl dL_term_20 hlocks)
set_option maxHeartbeats 4000000 in
set_option maxRecDepth 100000 in
theorem cL_span_ok {l : Launch} {E : Ev} (hl0 : l.stackTraces = false) {x0 : Nat} {x1 : Int32} {x2 : Int32} {x3 : Int32} {x4 : Int32} {x5 : Int32} {x6 : Int32} {x7 : Nat} {mm : Mem} {r : Int32} {mm1 : Mem} (hf : fL_span (eS E) x0 x1 x2 x3 x4 x5 x6 x7 mm = some (r, mm1)) : CtH l yL_span cL_span 9 (some .int) [(0, 18, 21, 13)] 9 202 E [.ref x0, .int x1, .int x2, .int x3, .int x4, .int x5, .int x6, .ref x7] mm r mm1 := by
  refine vx_ofWH (cc := cL_span) (maxL := 9) (ret := some .int) (hh := [(0, 18, 21, 13)]) (by decide) rfl ?_
  intro p e s m args below meth c s₁ B hml hv
  obtain ⟨rfl, X, hS, hr, hlocks, htab⟩ := am_inH B hv
  refine am_entry (Nat.le_of_ble_eq_true rfl) (fun ls hl => ?_)
  have hl : lv_has ls 9 [(0, .ref x0), (1, .int x1), (2, .int x2), (3, .int x3), (4, .int x4), (5, .int x5), (6, .int x6), (7, .ref x7)] := hl
  have hx := X.1
  have hb := X.2.1
  unfold fL_span at hf
  obtain ⟨u0, h0, hf⟩ := bs hf
  obtain ⟨_, hrc⟩ := isO_n h0
  obtain ⟨u, m1, h1, hf⟩ := bs2 hf
  refine lv_aload hx hb dL_span_0 (lv_at hl 7 rfl) ?_
  refine lv_iconst (v := 0) hx hb dL_span_2 (by decide) ?_
  refine lv_aload_n hx hb dL_span_3 rfl (lv_at hl 0 rfl) ?_
  refine lv_iload_n hx hb dL_span_4 rfl (lv_at hl 1 rfl) ?_
  refine lv_iload_n hx hb dL_span_5 rfl (lv_at hl 2 rfl) ?_
  refine lv_iload_n hx hb dL_span_6 rfl (lv_at hl 3 rfl) ?_
  refine lv_iload hx hb dL_span_7 (lv_at hl 4 rfl) ?_
  refine lv_iload hx hb dL_span_9 (lv_at hl 5 rfl) ?_
  refine lv_iload hx hb dL_span_11 (lv_at hl 6 rfl) ?_
  rcases u with r1 | k1
  · have hf := sme_l hf
    obtain ⟨m2, h2, hf⟩ := bs hf
    cases hf
    refine am_endi hS (am_runV (As := [.int x1, .int x2, .int x3, .int x4, .int x5, .int x6]) X (hml.trans hl.1.symm) hS (cX11_span_ok (l := l) (E := E) hl0 h1) mv_L_115 hrc rfl ⟨Nat.le_of_ble_eq_true rfl, Nat.le_of_ble_eq_true rfl⟩ ⟨Nat.zero_le _, Nat.zero_le _⟩ rfl rfl (Nat.le_of_ble_eq_true rfl) dL_span_13) (fun H locs hS => ?_)
    refine lv_i2l (v := r1.toInt64) hx hb dL_span_16 rfl ?_
    refine am_lst X hS h2 dL_span_17 (fun H locs hS => ?_)
    refine lv_goto (tgt := 25) hx hb dL_span_18 (by decide) ?_
    refine lv_iconst (v := 0) hx hb dL_span_25 (by decide) ?_
    refine W.widen (k := 1) (n := 6) (by omega) (by omega) ?_
    exact vx_ret (am_riG X hS hr rfl dL_span_26 hlocks)
  · have hf := sme_r hf
    obtain ⟨z, h3, hf⟩ := bs hf
    cases hf
    obtain ⟨rfl, rfl⟩ := hcI_n h3
    refine am_thrV (As := [.int x1, .int x2, .int x3, .int x4, .int x5, .int x6]) X (hml.trans hl.1.symm) hS (cX11_span_thr (l := l) (E := E) hl0 h1) mv_L_115 hrc rfl ⟨Nat.le_of_ble_eq_true rfl, Nat.le_of_ble_eq_true rfl⟩ ⟨Nat.le_of_ble_eq_true rfl, Nat.le_of_ble_eq_true rfl⟩ rfl rfl (Nat.le_of_ble_eq_true rfl) dL_span_13 (fun H locs ce q9 hS a1 a2 a3 => ?_)
    refine vx_catch (own := RL) (name := "java/lang/IllegalArgumentException") X.2.2.2.1 [] ⟨0, 18, 21, 13⟩ [] (by rw [htab]; rfl) (fun z hz => nomatch hz) (by decide) (by decide) (X.2.2.1 _ (inBi 557 (by decide +kernel))) (am_nw X (w := .castable (exN 1) "java/lang/IllegalArgumentException") (inNi 572 (by decide +kernel))) a1 a2 a3 ?_
    refine lv_astore (lv' := [(8, .ref q9), (0, .ref x0), (1, .int x1), (2, .int x2), (3, .int x3), (4, .int x4), (5, .int x5), (6, .int x6), (7, .ref x7)]) hx hb dL_span_21 hl (by decide) rfl (fun ls hl => ?_)
    refine lv_iconst (v := 1) hx hb dL_span_23 (by decide) ?_
    exact vx_ret (am_riG (cells := 1) (slots := 6) X hS hr rfl dL_span_24 hlocks)

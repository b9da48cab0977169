theorem dX2_takeOut_0 : decode cX2_takeOut 0 = .ok (.aload_n 0, 1) := by decide +kernel
theorem dX2_takeOut_1 : decode cX2_takeOut 1 = .ok (.getfield 9, 3) := by decide +kernel
theorem dX2_takeOut_4 : decode cX2_takeOut 4 = .ok (.iload_n 1, 1) := by decide +kernel
theorem dX2_takeOut_5 : decode cX2_takeOut 5 = .ok (.iaload, 1) := by decide +kernel
theorem dX2_takeOut_6 : decode cX2_takeOut 6 = .ok (.iload_n 2, 1) := by decide +kernel
theorem dX2_takeOut_7 : decode cX2_takeOut 7 = .ok (.if_icmp .ge 5, 3) := by decide +kernel
theorem dX2_takeOut_10 : decode cX2_takeOut 10 = .ok (.iconst 0, 1) := by decide +kernel
theorem dX2_takeOut_11 : decode cX2_takeOut 11 = .ok (.ireturn, 1) := by decide +kernel
theorem dX2_takeOut_12 : decode cX2_takeOut 12 = .ok (.aload_n 0, 1) := by decide +kernel
theorem dX2_takeOut_13 : decode cX2_takeOut 13 = .ok (.getfield 9, 3) := by decide +kernel
theorem dX2_takeOut_16 : decode cX2_takeOut 16 = .ok (.iload_n 1, 1) := by decide +kernel
theorem dX2_takeOut_17 : decode cX2_takeOut 17 = .ok (.dup2, 1) := by decide +kernel
theorem dX2_takeOut_18 : decode cX2_takeOut 18 = .ok (.iaload, 1) := by decide +kernel
theorem dX2_takeOut_19 : decode cX2_takeOut 19 = .ok (.iload_n 2, 1) := by decide +kernel
theorem dX2_takeOut_20 : decode cX2_takeOut 20 = .ok (.isub, 1) := by decide +kernel
theorem dX2_takeOut_21 : decode cX2_takeOut 21 = .ok (.iastore, 1) := by decide +kernel
theorem dX2_takeOut_22 : decode cX2_takeOut 22 = .ok (.aload_n 0, 1) := by decide +kernel
theorem dX2_takeOut_23 : decode cX2_takeOut 23 = .ok (.getfield 21, 3) := by decide +kernel
theorem dX2_takeOut_26 : decode cX2_takeOut 26 = .ok (.iload_n 1, 1) := by decide +kernel
theorem dX2_takeOut_27 : decode cX2_takeOut 27 = .ok (.dup2, 1) := by decide +kernel
theorem dX2_takeOut_28 : decode cX2_takeOut 28 = .ok (.iaload, 1) := by decide +kernel
theorem dX2_takeOut_29 : decode cX2_takeOut 29 = .ok (.iload_n 2, 1) := by decide +kernel
theorem dX2_takeOut_30 : decode cX2_takeOut 30 = .ok (.iadd, 1) := by decide +kernel
theorem dX2_takeOut_31 : decode cX2_takeOut 31 = .ok (.iastore, 1) := by decide +kernel
theorem dX2_takeOut_32 : decode cX2_takeOut 32 = .ok (.iconst 1, 1) := by decide +kernel
theorem dX2_takeOut_33 : decode cX2_takeOut 33 = .ok (.ireturn, 1) := by decide +kernel
theorem dX2_change_0 : decode cX2_change 0 = .ok (.aload_n 0, 1) := by decide +kernel
theorem dX2_change_1 : decode cX2_change 1 = .ok (.getfield 9, 3) := by decide +kernel
theorem dX2_change_4 : decode cX2_change 4 = .ok (.iload_n 1, 1) := by decide +kernel
theorem dX2_change_5 : decode cX2_change 5 = .ok (.iaload, 1) := by decide +kernel
theorem dX2_change_6 : decode cX2_change 6 = .ok (.istore_n 3, 1) := by decide +kernel
theorem dX2_change_7 : decode cX2_change 7 = .ok (.iload_n 3, 1) := by decide +kernel
theorem dX2_change_8 : decode cX2_change 8 = .ok (.aload_n 0, 1) := by decide +kernel
theorem dX2_change_9 : decode cX2_change 9 = .ok (.getfield 9, 3) := by decide +kernel
theorem dX2_change_12 : decode cX2_change 12 = .ok (.iload_n 2, 1) := by decide +kernel
theorem dX2_change_13 : decode cX2_change 13 = .ok (.iaload, 1) := by decide +kernel
theorem dX2_change_14 : decode cX2_change 14 = .ok (.if_icmp .ne 5, 3) := by decide +kernel
theorem dX2_change_17 : decode cX2_change 17 = .ok (.iconst 0, 1) := by decide +kernel
theorem dX2_change_18 : decode cX2_change 18 = .ok (.ireturn, 1) := by decide +kernel
theorem dX2_change_19 : decode cX2_change 19 = .ok (.aload_n 0, 1) := by decide +kernel
theorem dX2_change_20 : decode cX2_change 20 = .ok (.getfield 9, 3) := by decide +kernel
theorem dX2_change_23 : decode cX2_change 23 = .ok (.iload_n 1, 1) := by decide +kernel
theorem dX2_change_24 : decode cX2_change 24 = .ok (.aload_n 0, 1) := by decide +kernel
theorem dX2_change_25 : decode cX2_change 25 = .ok (.getfield 9, 3) := by decide +kernel
theorem dX2_change_28 : decode cX2_change 28 = .ok (.iload_n 2, 1) := by decide +kernel
theorem dX2_change_29 : decode cX2_change 29 = .ok (.iaload, 1) := by decide +kernel
theorem dX2_change_30 : decode cX2_change 30 = .ok (.iastore, 1) := by decide +kernel
theorem dX2_change_31 : decode cX2_change 31 = .ok (.aload_n 0, 1) := by decide +kernel
theorem dX2_change_32 : decode cX2_change 32 = .ok (.getfield 9, 3) := by decide +kernel
theorem dX2_change_35 : decode cX2_change 35 = .ok (.iload_n 2, 1) := by decide +kernel
theorem dX2_change_36 : decode cX2_change 36 = .ok (.iload_n 3, 1) := by decide +kernel
theorem dX2_change_37 : decode cX2_change 37 = .ok (.iastore, 1) := by decide +kernel
theorem dX2_change_38 : decode cX2_change 38 = .ok (.iconst 1, 1) := by decide +kernel
theorem dX2_change_39 : decode cX2_change 39 = .ok (.ireturn, 1) := by decide +kernel
theorem dX2_giveBack_0 : decode cX2_giveBack 0 = .ok (.aload_n 0, 1) := by decide +kernel
theorem dX2_giveBack_1 : decode cX2_giveBack 1 = .ok (.getfield 21, 3) := by decide +kernel
theorem dX2_giveBack_4 : decode cX2_giveBack 4 = .ok (.iload_n 1, 1) := by decide +kernel
theorem dX2_giveBack_5 : decode cX2_giveBack 5 = .ok (.iaload, 1) := by decide +kernel
theorem dX2_giveBack_6 : decode cX2_giveBack 6 = .ok (.iload_n 2, 1) := by decide +kernel
theorem dX2_giveBack_7 : decode cX2_giveBack 7 = .ok (.if_icmp .ge 5, 3) := by decide +kernel
theorem dX2_giveBack_10 : decode cX2_giveBack 10 = .ok (.iconst 0, 1) := by decide +kernel
theorem dX2_giveBack_11 : decode cX2_giveBack 11 = .ok (.ireturn, 1) := by decide +kernel
theorem dX2_giveBack_12 : decode cX2_giveBack 12 = .ok (.aload_n 0, 1) := by decide +kernel
theorem dX2_giveBack_13 : decode cX2_giveBack 13 = .ok (.getfield 21, 3) := by decide +kernel
theorem dX2_giveBack_16 : decode cX2_giveBack 16 = .ok (.iload_n 1, 1) := by decide +kernel
theorem dX2_giveBack_17 : decode cX2_giveBack 17 = .ok (.dup2, 1) := by decide +kernel
theorem dX2_giveBack_18 : decode cX2_giveBack 18 = .ok (.iaload, 1) := by decide +kernel
theorem dX2_giveBack_19 : decode cX2_giveBack 19 = .ok (.iload_n 2, 1) := by decide +kernel
theorem dX2_giveBack_20 : decode cX2_giveBack 20 = .ok (.isub, 1) := by decide +kernel
theorem dX2_giveBack_21 : decode cX2_giveBack 21 = .ok (.iastore, 1) := by decide +kernel
theorem dX2_giveBack_22 : decode cX2_giveBack 22 = .ok (.aload_n 0, 1) := by decide +kernel
theorem dX2_giveBack_23 : decode cX2_giveBack 23 = .ok (.getfield 9, 3) := by decide +kernel
theorem dX2_giveBack_26 : decode cX2_giveBack 26 = .ok (.iload_n 1, 1) := by decide +kernel
theorem dX2_giveBack_27 : decode cX2_giveBack 27 = .ok (.dup2, 1) := by decide +kernel
theorem dX2_giveBack_28 : decode cX2_giveBack 28 = .ok (.iaload, 1) := by decide +kernel
theorem dX2_giveBack_29 : decode cX2_giveBack 29 = .ok (.iload_n 2, 1) := by decide +kernel
theorem dX2_giveBack_30 : decode cX2_giveBack 30 = .ok (.iadd, 1) := by decide +kernel
theorem dX2_giveBack_31 : decode cX2_giveBack 31 = .ok (.iastore, 1) := by decide +kernel
theorem dX2_giveBack_32 : decode cX2_giveBack 32 = .ok (.iconst 1, 1) := by decide +kernel
theorem dX2_giveBack_33 : decode cX2_giveBack 33 = .ok (.ireturn, 1) := by decide +kernel
theorem inU_X2 : ∀ w ∈ u_ws RX2 TX2 6, w ∈ BIG := by
  have h : u_ws RX2 TX2 6 = [330, 332, 334, 336, 338, 340].filterMap (fun i => lw_tbl[i]?) := by decide +kernel
  have g : (u_ws RX2 TX2 6).all goodWord = true := by decide +kernel
  intro w hw
  refine inB ?_ (List.all_eq_true.mp g w hw)
  rw [h] at hw
  obtain ⟨i, -, hi⟩ := List.mem_filterMap.mp hw
  exact List.mem_of_getElem? hi
theorem fl_X2_9 : FL RX2 9 2 0 := ⟨RX2, TX2, 6, rfl, rfl, by decide, inU_X2, Or.inl (inBi 309 (by decide +kernel))⟩
theorem fl_X2_21 : FL RX2 21 2 3 := ⟨RX2, TX2, 6, rfl, rfl, by decide, inU_X2, Or.inl (inBi 320 (by decide +kernel))⟩
def fX2_takeOut (sh : Shp) (x0 : Nat) (x1 : Int32) (x2 : Int32) (mm : Mem) : Option (Int32 × Mem) :=
  (rR sh 2 x0 0).bind fun a1 =>
  (aL sh mm a1 x1).bind fun v2 =>
  if x2 ≤ v2 then ((rR sh 2 x0 0).bind fun a4 =>
  (aL sh mm a4 x1).bind fun v5 =>
  (aS sh mm a4 x1 (v5 - x2)).bind fun m6 =>
  (rR sh 2 x0 3).bind fun a7 =>
  (aL sh m6 a7 x1).bind fun v8 =>
  (aS sh m6 a7 x1 (v8 + x2)).bind fun m9 =>
  some (1, m9))
  else (some (0, mm))
def fX2_giveBack (sh : Shp) (x0 : Nat) (x1 : Int32) (x2 : Int32) (mm : Mem) : Option (Int32 × Mem) :=
  (rR sh 2 x0 3).bind fun a1 =>
  (aL sh mm a1 x1).bind fun v2 =>
  if x2 ≤ v2 then ((rR sh 2 x0 3).bind fun a4 =>
  (aL sh mm a4 x1).bind fun v5 =>
  (aS sh mm a4 x1 (v5 - x2)).bind fun m6 =>
  (rR sh 2 x0 0).bind fun a7 =>
  (aL sh m6 a7 x1).bind fun v8 =>
  (aS sh m6 a7 x1 (v8 + x2)).bind fun m9 =>
  some (1, m9))
  else (some (0, mm))
def fX2_change (sh : Shp) (x0 : Nat) (x1 : Int32) (x2 : Int32) (mm : Mem) : Option (Int32 × Mem) :=
  (rR sh 2 x0 0).bind fun a1 =>
  (aL sh mm a1 x1).bind fun v2 =>
  lt1 v2 fun x3_3 =>
  (rR sh 2 x0 0).bind fun a4 =>
  (aL sh mm a4 x2).bind fun v5 =>
  if x3_3 = v5 then (some (0, mm))
  else ((rR sh 2 x0 0).bind fun a7 =>
  (rR sh 2 x0 0).bind fun a8 =>
  (aL sh mm a8 x2).bind fun v9 =>
  (aS sh mm a7 x1 v9).bind fun m10 =>
  (rR sh 2 x0 0).bind fun a11 =>
  (aS sh m10 a11 x2 x3_3).bind fun m12 =>
  some (1, m12))
set_option maxHeartbeats 4000000 in
set_option maxRecDepth 100000 in
theorem wX2_takeOut {p : Program} {l : Launch} {e : Env} {R : Room} {s : State} {m : MethodId} {args : Array Value} {below : List Frame} {meth : Method} {c : Code} {Q : State → Prop} {E : Ev} (X : Cx p s m args c cX2_takeOut RX2 E) (hml : c.maxLocals = 3) (hR : 0 ≤ R.frames ∧ 0 ≤ R.locals) {x0 : Nat} {x1 : Int32} {x2 : Int32} {mm : Mem} {r : Int32} {mm1 : Mem} (hf : fX2_takeOut (eS E) x0 x1 x2 mm = some (r, mm1)) (hret : ∀ (pc : Nat) (H : Heap) (locs : List Loc) (ls : Array Slot), narrow .boolean (.int r) = .int r → decode cX2_takeOut pc = .ok (.ireturn, 1) → wS E s mm1 H locs → W p l e R s m args below meth c H locs 0 0 Q (F0 m pc ls [.int r])) : ∀ (H : Heap) (locs : List Loc) (ls : Array Slot), wS E s mm H locs → lv_has ls 3 [(0, .ref x0), (1, .int x1), (2, .int x2)] → W p l e R s m args below meth c H locs 0 0 Q (F0 m 0 ls []) := by
  have hx := X.1
  have hb := X.2.1
  unfold fX2_takeOut at hf
  intro H locs ls hS hl
  refine lv_aload_n hx hb dX2_takeOut_0 rfl (lv_at hl 0 rfl) ?_
  obtain ⟨a1, h1, hf⟩ := bs hf
  refine am_gr X hS fl_X2_9 rfl h1 dX2_takeOut_1 ?_
  refine lv_iload_n hx hb dX2_takeOut_4 rfl (lv_at hl 1 rfl) ?_
  obtain ⟨v2, h1, hf⟩ := bs hf
  refine am_ald X hS h1 dX2_takeOut_5 ?_
  refine lv_iload_n hx hb dX2_takeOut_6 rfl (lv_at hl 2 rfl) ?_
  refine lv_icmp_ge (tgt := 12) hx hb dX2_takeOut_7 (by decide) (fun q3 => ?_) (fun q3 => ?_)
  · have hf := ifp hf q3
    refine lv_aload_n hx hb dX2_takeOut_12 rfl (lv_at hl 0 rfl) ?_
    obtain ⟨a4, h1, hf⟩ := bs hf
    refine am_gr X hS fl_X2_9 rfl h1 dX2_takeOut_13 ?_
    refine lv_iload_n hx hb dX2_takeOut_16 rfl (lv_at hl 1 rfl) ?_
    refine lv_dup2_11 hx hb dX2_takeOut_17 rfl rfl ?_
    obtain ⟨v5, h1, hf⟩ := bs hf
    refine am_ald X hS h1 dX2_takeOut_18 ?_
    refine lv_iload_n hx hb dX2_takeOut_19 rfl (lv_at hl 2 rfl) ?_
    refine lv_isub hx hb dX2_takeOut_20 ?_
    obtain ⟨m6, h1, hf⟩ := bs hf
    refine am_ast X hS h1 dX2_takeOut_21 (fun H locs hS => ?_)
    refine lv_aload_n hx hb dX2_takeOut_22 rfl (lv_at hl 0 rfl) ?_
    obtain ⟨a7, h1, hf⟩ := bs hf
    refine am_gr X hS fl_X2_21 rfl h1 dX2_takeOut_23 ?_
    refine lv_iload_n hx hb dX2_takeOut_26 rfl (lv_at hl 1 rfl) ?_
    refine lv_dup2_11 hx hb dX2_takeOut_27 rfl rfl ?_
    obtain ⟨v8, h1, hf⟩ := bs hf
    refine am_ald X hS h1 dX2_takeOut_28 ?_
    refine lv_iload_n hx hb dX2_takeOut_29 rfl (lv_at hl 2 rfl) ?_
    refine lv_iadd hx hb dX2_takeOut_30 ?_
    obtain ⟨m9, h1, hf⟩ := bs hf
    refine am_ast X hS h1 dX2_takeOut_31 (fun H locs hS => ?_)
    refine lv_iconst (v := 1) hx hb dX2_takeOut_32 (by decide) ?_
    cases hf
    exact hret _ _ _ _ rfl dX2_takeOut_33 hS
  · have hf := ifn hf q3
    refine lv_iconst (v := 0) hx hb dX2_takeOut_10 (by decide) ?_
    cases hf
    exact hret _ _ _ _ rfl dX2_takeOut_11 hS
set_option maxRecDepth 100000 in
theorem cX2_takeOut_ok {l : Launch} {E : Ev} {x0 : Nat} {x1 : Int32} {x2 : Int32} {mm : Mem} {r : Int32} {mm1 : Mem} (hf : fX2_takeOut (eS E) x0 x1 x2 mm = some (r, mm1)) : CtI l yX2_takeOut cX2_takeOut 3 (some .boolean) 0 0 E [.ref x0, .int x1, .int x2] mm r mm1 := by
  refine Met.ofW (cc := cX2_takeOut) (maxL := 3) (ret := (some .boolean)) (by decide) rfl ?_
  intro p e s m args below meth c s₁ B hml hv
  obtain ⟨rfl, X, hS, hr, hlocks⟩ := am_in B hv
  refine am_entry (Nat.le_of_ble_eq_true rfl) (fun ls hl => ?_)
  exact wX2_takeOut X hml ⟨Nat.le_refl _, Nat.le_refl _⟩ hf (fun pc H locs ls hn hd hS => am_ri X hS hr hn hd hlocks) _ _ ls hS hl
set_option maxHeartbeats 4000000 in
set_option maxRecDepth 100000 in
theorem wX2_giveBack {p : Program} {l : Launch} {e : Env} {R : Room} {s : State} {m : MethodId} {args : Array Value} {below : List Frame} {meth : Method} {c : Code} {Q : State → Prop} {E : Ev} (X : Cx p s m args c cX2_giveBack RX2 E) (hml : c.maxLocals = 3) (hR : 0 ≤ R.frames ∧ 0 ≤ R.locals) {x0 : Nat} {x1 : Int32} {x2 : Int32} {mm : Mem} {r : Int32} {mm1 : Mem} (hf : fX2_giveBack (eS E) x0 x1 x2 mm = some (r, mm1)) (hret : ∀ (pc : Nat) (H : Heap) (locs : List Loc) (ls : Array Slot), narrow .boolean (.int r) = .int r → decode cX2_giveBack pc = .ok (.ireturn, 1) → wS E s mm1 H locs → W p l e R s m args below meth c H locs 0 0 Q (F0 m pc ls [.int r])) : ∀ (H : Heap) (locs : List Loc) (ls : Array Slot), wS E s mm H locs → lv_has ls 3 [(0, .ref x0), (1, .int x1), (2, .int x2)] → W p l e R s m args below meth c H locs 0 0 Q (F0 m 0 ls []) := by
  have hx := X.1
  have hb := X.2.1
  unfold fX2_giveBack at hf
  intro H locs ls hS hl
  refine lv_aload_n hx hb dX2_giveBack_0 rfl (lv_at hl 0 rfl) ?_
  obtain ⟨a1, h1, hf⟩ := bs hf
  refine am_gr X hS fl_X2_21 rfl h1 dX2_giveBack_1 ?_
  refine lv_iload_n hx hb dX2_giveBack_4 rfl (lv_at hl 1 rfl) ?_
  obtain ⟨v2, h1, hf⟩ := bs hf
  refine am_ald X hS h1 dX2_giveBack_5 ?_
  refine lv_iload_n hx hb dX2_giveBack_6 rfl (lv_at hl 2 rfl) ?_
  refine lv_icmp_ge (tgt := 12) hx hb dX2_giveBack_7 (by decide) (fun q3 => ?_) (fun q3 => ?_)
  · have hf := ifp hf q3
    refine lv_aload_n hx hb dX2_giveBack_12 rfl (lv_at hl 0 rfl) ?_
    obtain ⟨a4, h1, hf⟩ := bs hf
    refine am_gr X hS fl_X2_21 rfl h1 dX2_giveBack_13 ?_
    refine lv_iload_n hx hb dX2_giveBack_16 rfl (lv_at hl 1 rfl) ?_
    refine lv_dup2_11 hx hb dX2_giveBack_17 rfl rfl ?_
    obtain ⟨v5, h1, hf⟩ := bs hf
    refine am_ald X hS h1 dX2_giveBack_18 ?_
    refine lv_iload_n hx hb dX2_giveBack_19 rfl (lv_at hl 2 rfl) ?_
    refine lv_isub hx hb dX2_giveBack_20 ?_
    obtain ⟨m6, h1, hf⟩ := bs hf
    refine am_ast X hS h1 dX2_giveBack_21 (fun H locs hS => ?_)
    refine lv_aload_n hx hb dX2_giveBack_22 rfl (lv_at hl 0 rfl) ?_
    obtain ⟨a7, h1, hf⟩ := bs hf
    refine am_gr X hS fl_X2_9 rfl h1 dX2_giveBack_23 ?_
    refine lv_iload_n hx hb dX2_giveBack_26 rfl (lv_at hl 1 rfl) ?_
    refine lv_dup2_11 hx hb dX2_giveBack_27 rfl rfl ?_
    obtain ⟨v8, h1, hf⟩ := bs hf
    refine am_ald X hS h1 dX2_giveBack_28 ?_
    refine lv_iload_n hx hb dX2_giveBack_29 rfl (lv_at hl 2 rfl) ?_
    refine lv_iadd hx hb dX2_giveBack_30 ?_
    obtain ⟨m9, h1, hf⟩ := bs hf
    refine am_ast X hS h1 dX2_giveBack_31 (fun H locs hS => ?_)
    refine lv_iconst (v := 1) hx hb dX2_giveBack_32 (by decide) ?_
    cases hf
    exact hret _ _ _ _ rfl dX2_giveBack_33 hS
  · have hf := ifn hf q3
    refine lv_iconst (v := 0) hx hb dX2_giveBack_10 (by decide) ?_
    cases hf
    exact hret _ _ _ _ rfl dX2_giveBack_11 hS
set_option maxRecDepth 100000 in
theorem cX2_giveBack_ok {l : Launch} {E : Ev} {x0 : Nat} {x1 : Int32} {x2 : Int32} {mm : Mem} {r : Int32} {mm1 : Mem} (hf : fX2_giveBack (eS E) x0 x1 x2 mm = some (r, mm1)) : CtI l yX2_giveBack cX2_giveBack 3 (some .boolean) 0 0 E [.ref x0, .int x1, .int x2] mm r mm1 := by
  refine Met.ofW (cc := cX2_giveBack) (maxL := 3) (ret := (some .boolean)) (by decide) rfl ?_
  intro p e s m args below meth c s₁ B hml hv
  obtain ⟨rfl, X, hS, hr, hlocks⟩ := am_in B hv
  refine am_entry (Nat.le_of_ble_eq_true rfl) (fun ls hl => ?_)
  exact wX2_giveBack X hml ⟨Nat.le_refl _, Nat.le_refl _⟩ hf (fun pc H locs ls hn hd hS => am_ri X hS hr hn hd hlocks) _ _ ls hS hl
set_option maxHeartbeats 4000000 in
set_option maxRecDepth 100000 in
theorem wX2_change {p : Program} {l : Launch} {e : Env} {R : Room} {s : State} {m : MethodId} {args : Array Value} {below : List Frame} {meth : Method} {c : Code} {Q : State → Prop} {E : Ev} (X : Cx p s m args c cX2_change RX2 E) (hml : c.maxLocals = 4) (hR : 0 ≤ R.frames ∧ 0 ≤ R.locals) {x0 : Nat} {x1 : Int32} {x2 : Int32} {mm : Mem} {r : Int32} {mm1 : Mem} (hf : fX2_change (eS E) x0 x1 x2 mm = some (r, mm1)) (hret : ∀ (pc : Nat) (H : Heap) (locs : List Loc) (ls : Array Slot), narrow .boolean (.int r) = .int r → decode cX2_change pc = .ok (.ireturn, 1) → wS E s mm1 H locs → W p l e R s m args below meth c H locs 0 0 Q (F0 m pc ls [.int r])) : ∀ (H : Heap) (locs : List Loc) (ls : Array Slot), wS E s mm H locs → lv_has ls 4 [(0, .ref x0), (1, .int x1), (2, .int x2)] → W p l e R s m args below meth c H locs 0 0 Q (F0 m 0 ls []) := by
  have hx := X.1
  have hb := X.2.1
  unfold fX2_change at hf
  intro H locs ls hS hl
  refine lv_aload_n hx hb dX2_change_0 rfl (lv_at hl 0 rfl) ?_
  obtain ⟨a1, h1, hf⟩ := bs hf
  refine am_gr X hS fl_X2_9 rfl h1 dX2_change_1 ?_
  refine lv_iload_n hx hb dX2_change_4 rfl (lv_at hl 1 rfl) ?_
  obtain ⟨v2, h1, hf⟩ := bs hf
  refine am_ald X hS h1 dX2_change_5 ?_
  refine lv_topi (fun x3_3 e1 => ?_)
  have hf := lt1_n e1 hf
  refine lv_istore_n (lv' := [(3, .int x3_3), (0, .ref x0), (1, .int x1), (2, .int x2)]) hx hb dX2_change_6 rfl hl (by decide) rfl (fun ls hl => ?_)
  refine lv_iload_n hx hb dX2_change_7 rfl (lv_at hl 0 rfl) ?_
  refine lv_aload_n hx hb dX2_change_8 rfl (lv_at hl 1 rfl) ?_
  obtain ⟨a4, h1, hf⟩ := bs hf
  refine am_gr X hS fl_X2_9 rfl h1 dX2_change_9 ?_
  refine lv_iload_n hx hb dX2_change_12 rfl (lv_at hl 3 rfl) ?_
  obtain ⟨v5, h1, hf⟩ := bs hf
  refine am_ald X hS h1 dX2_change_13 ?_
  refine lv_icmp_ne (tgt := 19) hx hb dX2_change_14 (by decide) (fun q6 => ?_) (fun q6 => ?_)
  · have hf := ifn hf q6
    refine lv_aload_n hx hb dX2_change_19 rfl (lv_at hl 1 rfl) ?_
    obtain ⟨a7, h1, hf⟩ := bs hf
    refine am_gr X hS fl_X2_9 rfl h1 dX2_change_20 ?_
    refine lv_iload_n hx hb dX2_change_23 rfl (lv_at hl 2 rfl) ?_
    refine lv_aload_n hx hb dX2_change_24 rfl (lv_at hl 1 rfl) ?_
    obtain ⟨a8, h1, hf⟩ := bs hf
    refine am_gr X hS fl_X2_9 rfl h1 dX2_change_25 ?_
    refine lv_iload_n hx hb dX2_change_28 rfl (lv_at hl 3 rfl) ?_
    obtain ⟨v9, h1, hf⟩ := bs hf
    refine am_ald X hS h1 dX2_change_29 ?_
    obtain ⟨m10, h1, hf⟩ := bs hf
    refine am_ast X hS h1 dX2_change_30 (fun H locs hS => ?_)
    refine lv_aload_n hx hb dX2_change_31 rfl (lv_at hl 1 rfl) ?_
    obtain ⟨a11, h1, hf⟩ := bs hf
    refine am_gr X hS fl_X2_9 rfl h1 dX2_change_32 ?_
    refine lv_iload_n hx hb dX2_change_35 rfl (lv_at hl 3 rfl) ?_
    refine lv_iload_n hx hb dX2_change_36 rfl (lv_at hl 0 rfl) ?_
    obtain ⟨m12, h1, hf⟩ := bs hf
    refine am_ast X hS h1 dX2_change_37 (fun H locs hS => ?_)
    refine lv_iconst (v := 1) hx hb dX2_change_38 (by decide) ?_
    cases hf
    exact hret _ _ _ _ rfl dX2_change_39 hS
  · have hf := ifp hf q6
    refine lv_iconst (v := 0) hx hb dX2_change_17 (by decide) ?_
    cases hf
    exact hret _ _ _ _ rfl dX2_change_18 hS
set_option maxRecDepth 100000 in
theorem cX2_change_ok {l : Launch} {E : Ev} {x0 : Nat} {x1 : Int32} {x2 : Int32} {mm : Mem} {r : Int32} {mm1 : Mem} (hf : fX2_change (eS E) x0 x1 x2 mm = some (r, mm1)) : CtI l yX2_change cX2_change 4 (some .boolean) 0 0 E [.ref x0, .int x1, .int x2] mm r mm1 := by
  refine Met.ofW (cc := cX2_change) (maxL := 4) (ret := (some .boolean)) (by decide) rfl ?_
  intro p e s m args below meth c s₁ B hml hv
  obtain ⟨rfl, X, hS, hr, hlocks⟩ := am_in B hv
  refine am_entry (Nat.le_of_ble_eq_true rfl) (fun ls hl => ?_)
  exact wX2_change X hml ⟨Nat.le_refl _, Nat.le_refl _⟩ hf (fun pc H locs ls hn hd hS => am_ri X hS hr hn hd hlocks) _ _ ls hS hl

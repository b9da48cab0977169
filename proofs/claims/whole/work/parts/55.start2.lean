theorem gv_in {w : Cond} {i : Nat} {f : Nat → Cond} (h : (List.range sN).all (fun i => decide (f i ∈ gvn)) = true) (hi : i < sN) : f i ∈ gvn := by
  have h1 := List.all_eq_true.mp h i (List.mem_range.mpr hi)
  simpa using h1
theorem st_C {b : Nat} {s : State} (hts : ∀ w ∈ lw_tbl, w.before #[Value.ref b] s = true) (hgv : (Jvm.Cond.and given_1 narrow_1).before #[Value.ref b] s = true) : ∃ (kA vA : Nat → Nat) (fA : Nat), ∀ (D : va_G) (cI : ClassId) (cT : Nat → ClassId) (Lq : List Nat) (sh : Shp), wC (D, cI, cT, Lq, sh, s, kA, vA, fA) s := by
  have hs : ∀ w ∈ gvn, w.before #[Value.ref b] s = true := flat_of_before _ hgv
  have hA : ∀ a : Nat, a < s.heap.size → ¬ (fun q => s.heap.size ≤ q) a := fun a h h2 => absurd h (Nat.not_lt.mpr h2)
  obtain ⟨kA, vA, hS, hev⟩ := vk_Sof (args := #[Value.ref b]) (s := s) (N := sN) (tm := sTm) (len := sLens) (byt := sBytes) (A := fun q => s.heap.size ≤ q) (by decide +kernel) (fun i hi => hs _ (gv_ex i hi)) (fun i hi => hs _ (gv_co i hi)) (fun i hi => hs _ (gv_ar i hi)) (fun i hi => hs _ (gv_le i hi)) (fun i hi j hj => hs _ (gv_el i hi j hj)) (fun i j hi hj hne => by
      rcases Nat.lt_or_gt_of_ne hne with h1 | h1
      · exact Or.inl (hs _ (gv_ne i j hj h1))
      · exact Or.inr (hs _ (gv_ne j i hi h1))) hA
  obtain ⟨t, ht, hT⟩ := va_Tof (args := #[Value.ref b]) (s := s) (tm := .static "PartedFellows" "FACTORIALS" "[I") (ty := .int) (N := 7) (f := fun j => .int (facs.getD j 0)) (A := fun q => s.heap.size ≤ q) (by decide) (hs _ (by decide +kernel)) (va_eqt (hs _ (by decide +kernel))) (fun j hj => va_eqt (hs _ (by
      have h1 : (List.range 7).all (fun j => decide (Cond.eq (.elem (.static "PartedFellows" "FACTORIALS" "[I") (.int (Int32.ofNat j))) (.int (facs.getD j 0)) ∈ gvn)) = true := by decide +kernel
      have h2 := List.all_eq_true.mp h1 j (List.mem_range.mpr hj)
      simpa using h2))) hA
  refine ⟨kA, vA, t, fun D cI cT Lq sh => ⟨hS, fun i hi => vk_R.of (hts _ (by
      have h1 := List.all_eq_true.mp gv_sr i (List.mem_range.mpr hi)
      simpa using h1)) (hev i hi), ?_, hT, ?_, ?_, ?_, ?_, ?_⟩⟩
  · exact va_Zof (hts (.laysStatic "PartedFellows" "FACTORIALS" "[I") (List.mem_of_getElem? (i := 1188) (by decide +kernel))) (hts (.initialized "PartedFellows") (List.mem_of_getElem? (i := 95) (by decide +kernel))) ht hA
  · exact va_Zof (hts (.laysStatic "java/lang/String" "COMPACT_STRINGS" "Z") (List.mem_of_getElem? (i := 675) (by decide +kernel))) (hts (.initialized "java/lang/String") (List.mem_of_getElem? (i := 113) (by decide +kernel))) (va_eqt (hs _ (by decide +kernel))) hA
  · exact va_Zqof (hts (.laysStatic "jdk/internal/util/Preconditions" "SIOOBE_FORMATTER" "Ljava/util/function/BiFunction;") (List.mem_of_getElem? (i := 691) (by decide +kernel))) (hts (.initialized "jdk/internal/util/Preconditions") (List.mem_of_getElem? (i := 115) (by decide +kernel))) (hs _ (by decide +kernel)) hA
  · exact vx_Zqof (hts (.laysStatic Bundle.tN "UNASSIGNED_STACK" Bundle.steD) (List.mem_of_getElem? (i := 597) (by decide +kernel))) (hts (.initialized Bundle.tN) (List.mem_of_getElem? (i := 108) (by decide +kernel))) (hs _ (by decide +kernel)) hA
  · exact vx_Zqof (hts (.laysStatic Bundle.tN "SUPPRESSED_SENTINEL" Bundle.listD) (List.mem_of_getElem? (i := 599) (by decide +kernel))) (hts (.initialized Bundle.tN) (List.mem_of_getElem? (i := 108) (by decide +kernel))) (hs _ (by decide +kernel)) hA
  · exact va_Nc.of (hs (Cond.not (.castable "java/lang/IllegalArgumentException" "java/util/NoSuchElementException")) (by decide +kernel))
set_option maxRecDepth 20000 in
theorem mi_RL_11 : MI RL 119 yX11_init cX11_init 2 0 := ⟨(inBi 123 (by decide +kernel)), (inBi 124 (by decide +kernel)), (inBi 95 (by decide +kernel)), inB (List.mem_of_getElem? (i := 125) rfl) rfl, rfl, by decide +kernel, by decide +kernel, by decide +kernel⟩
set_option maxRecDepth 20000 in
theorem mi_RL_12 : MI RL 122 yX12_init cX12_init 1 0 := ⟨(inBi 1341 (by decide +kernel)), (inBi 1342 (by decide +kernel)), (inBi 107 (by decide +kernel)), inB (List.mem_of_getElem? (i := 1343) rfl) rfl, rfl, by decide +kernel, by decide +kernel, by decide +kernel⟩
/-- THE PURE CLAIM: the constructors' cells, and the law's loop over the plain memory, answer 1 -/
def PureLaw : Prop := ∀ (B L : Nat) (xs : Nat → Int32), L ≤ 4608 → ∃ (c1 c2 : List RC) (m1 m2 : Mem) (n : Nat), kX11_init B 0 [(.inr (.inl (11, [])) : RC)] (fun _ _ => 0) = some (c1, m1) ∧ kX12_init B c1.length (c1 ++ [(.inr (.inl (12, [])) : RC)]) m1 = some (c2, m2) ∧ (∀ a j : Nat, B + c2.length ≤ a → m2 a j = 0) ∧ loopN (fL_step (shL B (c2 ++ [(.inr (.inr (3, 1, [])) : RC)])) L xs B (B + c1.length) (B + c2.length)) n (0, m2) = some 1
set_option maxHeartbeats 4000000 in
set_option maxRecDepth 100000 in
theorem whole_start_open (hpure : PureLaw) {p : Program} {e : Env} {s : State} {m : MethodId} {below : List Frame} {meth : Method} {c : Code} (l : Launch) (hflags : l.flags = flags0) {b L : Nat} {xs : Nat → Int32} (hL : L ≤ 4608) (C0 : lw_At p s m meth c b L xs) : W p l e room_1 s m #[Value.ref b] below meth c s.heap [] 0 0 (lw_Z below #[Value.ref b] s) (entryFrame m ([Value.ref b] : List Value).toArray 8) := by
  obtain ⟨hx, hb, hr, hml, hown, hts, hX, hbl, hlocks, hgv⟩ := id C0
  have hl0 : l.stackTraces = false := by
    unfold Launch.stackTraces
    rw [hflags]
    decide +kernel
  obtain ⟨D, cI, cT, hK⟩ := st_K hts
  obtain ⟨kA, vA, fA, hC⟩ := st_C hts hgv
  obtain ⟨E, hE⟩ : ∃ E : Ev, E = (D, cI, cT, [], fun _ => none, s, kA, vA, fA) := ⟨_, rfl⟩
  have hE0 : e0 E = s := by rw [hE]
  have hBe : eB E = s.heap.size := by rw [hE]
  obtain ⟨c1, c2, m1, m2, n, h1, h2, hz2, hloop⟩ := hpure (eB E) L xs hL
  have hV : wV (mkR E []) s := by
    refine ⟨?_, wN_mkR E [], fun w hw => nw_of (List.mem_filter.mp hw).2 (hts w (List.mem_filter.mp hw).1), ?_⟩
    · have h9 := hK (mkR E []) (by rw [hE]; rfl) (by rw [hE]; rfl) (by rw [hE]; rfl)
      rw [hE] at h9 ⊢
      exact h9
    · rw [hE]
      exact hC _ _ _ _ _
  have hO : wO (mkR E []) s.heap := by
    rw [hE]
    exact ⟨Nat.le_refl _, fun _ _ => rfl⟩
  have X : Cx p s m #[Value.ref b] c cL_law_ RL (mkR E []) := ⟨hx, hb, fun w h => hts w (inT h), hown, hV, hO⟩
  have hS : wS (mkR E []) s (fun _ _ => 0) s.heap [] := ⟨fun k q h => absurd (List.getElem?_eq_some_iff.mp h).1 (Nat.not_lt_zero k), va_S.rf⟩
  have hz : Zr E [] (fun _ _ => 0) := fun _ _ _ => rfl
  refine am_entry (As := [Value.ref b]) (Nat.le_of_ble_eq_true rfl) (fun ls hl => ?_)
  have hl : lv_has ls 8 [(0, .ref b)] := hl
  have hR9 : 400 ≤ room_1.frames ∧ 20000 ≤ room_1.locals := ⟨Nat.le_of_ble_eq_true rfl, Nat.le_of_ble_eq_true rfl⟩
  refine am_nO (ci := 11) (N := 18) (C := RX11) (T := TX11) (ty := tyX11) X hS hz (by rw [hBe]; rfl) rfl inU_X11 tyX11_ok (inBi 121 (by decide +kernel)) (inBi 122 (by decide +kernel)) (inBi 95 (by decide +kernel)) (by decide +kernel) (Nat.le_of_ble_eq_true rfl) (Nat.le_of_ble_eq_true rfl) dL_law__0 (fun H hS => ?_)
  have X := X.to ([] ++ [(.inr (.inl (11, [])) : RC)])
  have hz : Zr E ([] ++ [(.inr (.inl (11, [])) : RC)]) (fun _ _ => 0) := hz.grow
  refine lv_dup hx hb dL_law__3 rfl ?_
  refine am_cN (i := 0) (As := []) X (hml.trans hl.1.symm) hS hz (by rw [hBe]; rfl) (kX11_init_ok (l := l) (E := E) (fun x0 cs cs' mm mm' z h => kX4_zr x0 cs cs' mm mm' z h) h1) mi_RL_11 ⟨Nat.le_of_ble_eq_true rfl, Nat.le_of_ble_eq_true rfl⟩ ⟨Nat.le_of_ble_eq_true rfl, Nat.le_of_ble_eq_true rfl⟩ rfl rfl (Nat.le_of_ble_eq_true rfl) dL_law__4 (fun H locs hS hz => ?_)
  have X := X.to c1
  have n1 := kX11_init_len h1
  have n1 : c1.length = 517 := n1
  refine lv_astore_n (lv' := [(1, .ref (eB E + 0)), (0, .ref b)]) hx hb dL_law__7 rfl hl (by decide) rfl (fun ls hl => ?_)
  refine am_nO (ci := 12) (N := 50) (C := RX12) (T := TX12) (ty := tyX12) X hS hz (by rw [hBe, n1]) rfl inU_X12 tyX12_ok (inBi 1339 (by decide +kernel)) (inBi 1340 (by decide +kernel)) (inBi 107 (by decide +kernel)) (by decide +kernel) (Nat.le_of_ble_eq_true rfl) (Nat.le_of_ble_eq_true rfl) dL_law__8 (fun H hS => ?_)
  have X := X.to (c1 ++ [(.inr (.inl (12, [])) : RC)])
  have hz : Zr E (c1 ++ [(.inr (.inl (12, [])) : RC)]) m1 := hz.grow
  refine lv_dup hx hb dL_law__11 rfl ?_
  refine am_cN (i := c1.length) (As := []) X (hml.trans hl.1.symm) hS hz (by rw [hBe, List.length_append, n1]; rfl) (kX12_init_ok (l := l) (E := E) hz2 h2) mi_RL_12 ⟨Nat.le_of_ble_eq_true rfl, Nat.le_of_ble_eq_true rfl⟩ ⟨Nat.le_of_ble_eq_true rfl, Nat.le_of_ble_eq_true rfl⟩ rfl rfl (Nat.le_of_ble_eq_true rfl) dL_law__12 (fun H locs hS hz => ?_)
  have X := X.to c2
  have n2 := kX12_init_len h2
  have n2 : c2.length = 542 := by rw [n2, List.length_append, n1]; rfl
  refine lv_astore_n (lv' := [(2, .ref (eB E + c1.length)), (1, .ref (eB E + 0)), (0, .ref b)]) hx hb dL_law__15 rfl hl (by decide) rfl (fun ls hl => ?_)
  refine lv_iconst (v := 1) hx hb dL_law__16 (by decide) ?_
  refine am_nJ (N' := 1) X hS hz (by rw [hBe, n2]) (inBi 1998 (by decide +kernel)) (by decide) (by decide) (Nat.le_of_ble_eq_true rfl) (Nat.le_of_ble_eq_true rfl) (Nat.le_of_ble_eq_true rfl) dL_law__17 (fun H hS => ?_)
  have X := X.to (c2 ++ [(.inr (.inr (3, 1, [])) : RC)])
  refine lv_astore_n (lv' := [(3, .ref (eB E + c2.length)), (2, .ref (eB E + c1.length)), (1, .ref (eB E + 0)), (0, .ref b)]) hx hb dL_law__19 rfl hl (by decide) rfl (fun ls hl => ?_)
  refine lv_iconst (v := 0) hx hb dL_law__20 (by decide) ?_
  refine lv_istore (lv' := [(4, .int 0), (3, .ref (eB E + c2.length)), (2, .ref (eB E + c1.length)), (1, .ref (eB E + 0)), (0, .ref b)]) hx hb dL_law__21 hl (by decide) rfl (fun ls hl => ?_)
  have hXs : Scr (mkR E (c2 ++ [(.inr (.inr (3, 1, [])) : RC)])) s b L xs := ⟨hX, hbl, by
    show ¬ (e0 E).heap.size ≤ b
    rw [hE0]
    exact Nat.not_le.mpr hbl⟩
  refine law_loop (E := mkR E (c2 ++ [(.inr (.inr (3, 1, [])) : RC)])) hl0 X hXs hml hR9 (x1 := eB E + 0) (x2 := eB E + c1.length) (x3 := eB E + c2.length) hL (kc0 := 543) (ks0 := 40256) (Nat.le_of_ble_eq_true rfl) (Nat.le_of_ble_eq_true rfl) (fun pc H locs ls cells slots hc hs hd mm1 hS => ?_) n 0 0 m2 rfl (by omega) hloop H locs ls _ _ (Nat.le_of_ble_eq_true rfl) (Nat.le_of_ble_eq_true rfl) hS (lv_sub hl [4, 3, 2, 1, 0] rfl)
  refine va_forget (fun q hq => ?_) (W.widen (k := 601024) (n := 7293034) (by omega) (by omega) (lw_ret hx hb hr hlocks hd))
  have h9 : (e0 E).heap.size ≤ q.base := hS.2.2.2 q hq
  rw [hE0] at h9
  exact h9

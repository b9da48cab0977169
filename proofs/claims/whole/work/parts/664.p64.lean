section CTOR
variable {B : Nat} {m : Mem}
def yp_P4 (B x : Nat) (m : Mem) : Mem := up2 (up2 (up2 (up2 (up2 (up2 m (B + (x + 1)) 0 (yp_N 1000)) (B + (x + 1)) 1 (yp_N 1)) (B + (x + 1)) 2 (yp_N 1100)) (B + (x + 1)) 3 (yp_N 1002)) (B + (x + 1)) 4 (yp_N 1102)) (B + x) 2 (yp_N 5)
set_option maxHeartbeats 1000000 in
theorem yp_k4m {c4 : List RC} {x : Nat} (h0 : c4[x]? = some (yp_ob 4 [some (x + 1), some (x + 2)])) (h1 : c4[x + 1]? = some (.inl 151)) (m : Mem) : isO (shL B c4) 4 (B + x) = some () ∧ fX4_becomePlain (shL B c4) (B + x) m = some (yp_P4 B x m) := by
  have e0 : shL B c4 (B + x) = some (shf B (yp_ob 4 [some (x + 1), some (x + 2)])) := by rw [shL_at, h0]; rfl
  have e1 : shL B c4 (B + (x + 1)) = some (.inl 151) := by rw [shL_at, h1]; rfl
  have r1 : rR (shL B c4) 4 (B + x) 0 = some (B + (x + 1)) := by rw [rR, e0]; rfl
  have r2 : ∀ mm k v, wI (shL B c4) mm 4 (B + x) k v = some (up2 mm (B + x) k v) := fun mm k v => by rw [wI, e0]; rfl
  have r3 : ∀ mm k v, k < 151 → aS (shL B c4) mm (B + (x + 1)) (yp_N k) v = some (up2 mm (B + (x + 1)) k v) := fun mm k v h => yp_aSN e1 mm k v h (by omega)
  refine ⟨by rw [isO, e0]; rfl, ?_⟩
  simp (disch := omega) only [fX4_becomePlain, r1, r2, r3, Nat.reduceAdd, Nat.reduceMul, Nat.reduceSub, Nat.zero_add, Nat.add_zero, yp_LT, yp_nA, yp_nM, yp_ltF, yp_ltT, yp_leF, yp_leT, yp_eqF, eq_self, yp_eqM, yp_lt1N, yp_sbN, yp_sb2N, ↓reduceIte, ↓yp_iP11, ↓yp_iP12, ↓yp_m0P]
  rfl
set_option maxHeartbeats 1000000 in
theorem yp_k8m : kX8_init B 1 [yp_ob 11 [], yp_ob 8 []] m = some ([yp_ob 11 [], yp_ob 8 [some 2], .inl 600], up2 m (B + 1) 5 (-1)) := by
  have e : ptR [yp_ob 11 [], yp_ob 8 [], .inl 600] 8 1 0 2 = some [yp_ob 11 [], yp_ob 8 [some 2], .inl 600] := rfl
  have w : wI (shL B [yp_ob 11 [], yp_ob 8 [some 2], .inl 600]) m 8 (B + 1) 5 (-1) = some (up2 m (B + 1) 5 (-1)) := by rw [wI, shL_at]; rfl
  simp only [kX8_init, lt1, List.cons_append, List.nil_append, List.length_cons, List.length_nil, Nat.reduceAdd, yp_opP e, yp_opP w]
set_option maxHeartbeats 1000000 in
theorem yp_k1a : kX1_init B 3 [yp_ob 11 [some 1], yp_ob 8 [some 2], .inl 600, yp_ob 1 []] m = some ([yp_ob 11 [some 1], yp_ob 8 [some 2], .inl 600, yp_ob 1 [some 4, some 5, some 6], .inl 42, .inl 8, .inl 8], up2 m (B + 3) 5 60) := by
  have e0 : ptR [yp_ob 11 [some 1], yp_ob 8 [some 2], .inl 600, yp_ob 1 [], .inl 42] 1 3 0 4 = some [yp_ob 11 [some 1], yp_ob 8 [some 2], .inl 600, yp_ob 1 [some 4], .inl 42] := rfl
  have e1 : ptR [yp_ob 11 [some 1], yp_ob 8 [some 2], .inl 600, yp_ob 1 [some 4], .inl 42, .inl 8] 1 3 1 5 = some [yp_ob 11 [some 1], yp_ob 8 [some 2], .inl 600, yp_ob 1 [some 4, some 5], .inl 42, .inl 8] := rfl
  have e2 : ptR [yp_ob 11 [some 1], yp_ob 8 [some 2], .inl 600, yp_ob 1 [some 4, some 5], .inl 42, .inl 8, .inl 8] 1 3 2 6 = some [yp_ob 11 [some 1], yp_ob 8 [some 2], .inl 600, yp_ob 1 [some 4, some 5, some 6], .inl 42, .inl 8, .inl 8] := rfl
  have w : wI (shL B [yp_ob 11 [some 1], yp_ob 8 [some 2], .inl 600, yp_ob 1 [some 4, some 5, some 6], .inl 42, .inl 8, .inl 8]) m 1 (B + 3) 5 60 = some (up2 m (B + 3) 5 60) := by rw [wI, shL_at]; rfl
  simp only [kX1_init, lt1, List.cons_append, List.nil_append, List.length_cons, List.length_nil, Nat.reduceAdd, yp_opP e0, yp_opP e1, yp_opP e2, yp_opP w]
set_option maxHeartbeats 1000000 in
theorem yp_k1b : kX1_init B 7 [yp_ob 11 [some 1, some 3], yp_ob 8 [some 2], .inl 600, yp_ob 1 [some 4, some 5, some 6], .inl 42, .inl 8, .inl 8, yp_ob 1 []] m = some ([yp_ob 11 [some 1, some 3], yp_ob 8 [some 2], .inl 600, yp_ob 1 [some 4, some 5, some 6], .inl 42, .inl 8, .inl 8, yp_ob 1 [some 8, some 9, some 10], .inl 42, .inl 8, .inl 8], up2 m (B + 7) 5 60) := by
  have e0 : ptR [yp_ob 11 [some 1, some 3], yp_ob 8 [some 2], .inl 600, yp_ob 1 [some 4, some 5, some 6], .inl 42, .inl 8, .inl 8, yp_ob 1 [], .inl 42] 1 7 0 8 = some [yp_ob 11 [some 1, some 3], yp_ob 8 [some 2], .inl 600, yp_ob 1 [some 4, some 5, some 6], .inl 42, .inl 8, .inl 8, yp_ob 1 [some 8], .inl 42] := rfl
  have e1 : ptR [yp_ob 11 [some 1, some 3], yp_ob 8 [some 2], .inl 600, yp_ob 1 [some 4, some 5, some 6], .inl 42, .inl 8, .inl 8, yp_ob 1 [some 8], .inl 42, .inl 8] 1 7 1 9 = some [yp_ob 11 [some 1, some 3], yp_ob 8 [some 2], .inl 600, yp_ob 1 [some 4, some 5, some 6], .inl 42, .inl 8, .inl 8, yp_ob 1 [some 8, some 9], .inl 42, .inl 8] := rfl
  have e2 : ptR [yp_ob 11 [some 1, some 3], yp_ob 8 [some 2], .inl 600, yp_ob 1 [some 4, some 5, some 6], .inl 42, .inl 8, .inl 8, yp_ob 1 [some 8, some 9], .inl 42, .inl 8, .inl 8] 1 7 2 10 = some [yp_ob 11 [some 1, some 3], yp_ob 8 [some 2], .inl 600, yp_ob 1 [some 4, some 5, some 6], .inl 42, .inl 8, .inl 8, yp_ob 1 [some 8, some 9, some 10], .inl 42, .inl 8, .inl 8] := rfl
  have w : wI (shL B [yp_ob 11 [some 1, some 3], yp_ob 8 [some 2], .inl 600, yp_ob 1 [some 4, some 5, some 6], .inl 42, .inl 8, .inl 8, yp_ob 1 [some 8, some 9, some 10], .inl 42, .inl 8, .inl 8]) m 1 (B + 7) 5 60 = some (up2 m (B + 7) 5 60) := by rw [wI, shL_at]; rfl
  simp only [kX1_init, lt1, List.cons_append, List.nil_append, List.length_cons, List.length_nil, Nat.reduceAdd, yp_opP e0, yp_opP e1, yp_opP e2, yp_opP w]
set_option maxHeartbeats 1000000 in
theorem yp_k4a : kX4_init B 11 [yp_ob 11 [some 1, some 3, some 7], yp_ob 8 [some 2], .inl 600, yp_ob 1 [some 4, some 5, some 6], .inl 42, .inl 8, .inl 8, yp_ob 1 [some 8, some 9, some 10], .inl 42, .inl 8, .inl 8, yp_ob 4 []] m = some ([yp_ob 11 [some 1, some 3, some 7], yp_ob 8 [some 2], .inl 600, yp_ob 1 [some 4, some 5, some 6], .inl 42, .inl 8, .inl 8, yp_ob 1 [some 8, some 9, some 10], .inl 42, .inl 8, .inl 8, yp_ob 4 [some 12, some 13], .inl 151, .inl 151], yp_P4 B 11 m) := by
  have e0 : ptR [yp_ob 11 [some 1, some 3, some 7], yp_ob 8 [some 2], .inl 600, yp_ob 1 [some 4, some 5, some 6], .inl 42, .inl 8, .inl 8, yp_ob 1 [some 8, some 9, some 10], .inl 42, .inl 8, .inl 8, yp_ob 4 [], .inl 151] 4 11 0 12 = some [yp_ob 11 [some 1, some 3, some 7], yp_ob 8 [some 2], .inl 600, yp_ob 1 [some 4, some 5, some 6], .inl 42, .inl 8, .inl 8, yp_ob 1 [some 8, some 9, some 10], .inl 42, .inl 8, .inl 8, yp_ob 4 [some 12], .inl 151] := rfl
  have e1 : ptR [yp_ob 11 [some 1, some 3, some 7], yp_ob 8 [some 2], .inl 600, yp_ob 1 [some 4, some 5, some 6], .inl 42, .inl 8, .inl 8, yp_ob 1 [some 8, some 9, some 10], .inl 42, .inl 8, .inl 8, yp_ob 4 [some 12], .inl 151, .inl 151] 4 11 1 13 = some [yp_ob 11 [some 1, some 3, some 7], yp_ob 8 [some 2], .inl 600, yp_ob 1 [some 4, some 5, some 6], .inl 42, .inl 8, .inl 8, yp_ob 1 [some 8, some 9, some 10], .inl 42, .inl 8, .inl 8, yp_ob 4 [some 12, some 13], .inl 151, .inl 151] := rfl
  have w := yp_k4m (B := B) (c4 := [yp_ob 11 [some 1, some 3, some 7], yp_ob 8 [some 2], .inl 600, yp_ob 1 [some 4, some 5, some 6], .inl 42, .inl 8, .inl 8, yp_ob 1 [some 8, some 9, some 10], .inl 42, .inl 8, .inl 8, yp_ob 4 [some 12, some 13], .inl 151, .inl 151]) (x := 11) rfl rfl m
  simp only [kX4_init, lt1, List.cons_append, List.nil_append, List.length_cons, List.length_nil, Nat.reduceAdd, yp_opP e0, yp_opP e1, yp_opP w.1, yp_opP w.2]
set_option maxHeartbeats 1000000 in
theorem yp_k4b : kX4_init B 14 [yp_ob 11 [some 1, some 3, some 7, some 11], yp_ob 8 [some 2], .inl 600, yp_ob 1 [some 4, some 5, some 6], .inl 42, .inl 8, .inl 8, yp_ob 1 [some 8, some 9, some 10], .inl 42, .inl 8, .inl 8, yp_ob 4 [some 12, some 13], .inl 151, .inl 151, yp_ob 4 []] m = some ([yp_ob 11 [some 1, some 3, some 7, some 11], yp_ob 8 [some 2], .inl 600, yp_ob 1 [some 4, some 5, some 6], .inl 42, .inl 8, .inl 8, yp_ob 1 [some 8, some 9, some 10], .inl 42, .inl 8, .inl 8, yp_ob 4 [some 12, some 13], .inl 151, .inl 151, yp_ob 4 [some 15, some 16], .inl 151, .inl 151], yp_P4 B 14 m) := by
  have e0 : ptR [yp_ob 11 [some 1, some 3, some 7, some 11], yp_ob 8 [some 2], .inl 600, yp_ob 1 [some 4, some 5, some 6], .inl 42, .inl 8, .inl 8, yp_ob 1 [some 8, some 9, some 10], .inl 42, .inl 8, .inl 8, yp_ob 4 [some 12, some 13], .inl 151, .inl 151, yp_ob 4 [], .inl 151] 4 14 0 15 = some [yp_ob 11 [some 1, some 3, some 7, some 11], yp_ob 8 [some 2], .inl 600, yp_ob 1 [some 4, some 5, some 6], .inl 42, .inl 8, .inl 8, yp_ob 1 [some 8, some 9, some 10], .inl 42, .inl 8, .inl 8, yp_ob 4 [some 12, some 13], .inl 151, .inl 151, yp_ob 4 [some 15], .inl 151] := rfl
  have e1 : ptR [yp_ob 11 [some 1, some 3, some 7, some 11], yp_ob 8 [some 2], .inl 600, yp_ob 1 [some 4, some 5, some 6], .inl 42, .inl 8, .inl 8, yp_ob 1 [some 8, some 9, some 10], .inl 42, .inl 8, .inl 8, yp_ob 4 [some 12, some 13], .inl 151, .inl 151, yp_ob 4 [some 15], .inl 151, .inl 151] 4 14 1 16 = some [yp_ob 11 [some 1, some 3, some 7, some 11], yp_ob 8 [some 2], .inl 600, yp_ob 1 [some 4, some 5, some 6], .inl 42, .inl 8, .inl 8, yp_ob 1 [some 8, some 9, some 10], .inl 42, .inl 8, .inl 8, yp_ob 4 [some 12, some 13], .inl 151, .inl 151, yp_ob 4 [some 15, some 16], .inl 151, .inl 151] := rfl
  have w := yp_k4m (B := B) (c4 := [yp_ob 11 [some 1, some 3, some 7, some 11], yp_ob 8 [some 2], .inl 600, yp_ob 1 [some 4, some 5, some 6], .inl 42, .inl 8, .inl 8, yp_ob 1 [some 8, some 9, some 10], .inl 42, .inl 8, .inl 8, yp_ob 4 [some 12, some 13], .inl 151, .inl 151, yp_ob 4 [some 15, some 16], .inl 151, .inl 151]) (x := 14) rfl rfl m
  simp only [kX4_init, lt1, List.cons_append, List.nil_append, List.length_cons, List.length_nil, Nat.reduceAdd, yp_opP e0, yp_opP e1, yp_opP w.1, yp_opP w.2]
def yp_M11 (B : Nat) (m : Mem) : Mem := yp_P4 B 14 (yp_P4 B 11 (up2 (up2 (up2 m (B + 1) 5 (-1)) (B + 3) 5 60) (B + 7) 5 60))
def yp_kT11 (B x0 : Nat) (c20 : List RC) (mm : Mem) : Option (List RC × Mem) :=
  lt1 (c20 ++ [(.inr (.inl (0, [])) : RC)]) fun c21 =>
  bd2 (kX0_init B c20.length c21 mm) fun c22 m23 =>
  (ptR c22 11 x0 5 c20.length).bind fun c24 =>
  lt1 (c24 ++ [(.inr (.inl (0, [])) : RC)]) fun c25 =>
  bd2 (kX0_init B c24.length c25 m23) fun c26 m27 =>
  (ptR c26 11 x0 6 c24.length).bind fun c28 =>
  lt1 (c28 ++ [(.inr (.inl (5, [])) : RC)]) fun c29 =>
  (gtR c29 11 x0 1).bind fun g30 =>
  (gtR c29 11 x0 3).bind fun g31 =>
  bd2 (kX5_init B c28.length g30 g31 c29 m27) fun c32 m33 =>
  (ptR c32 11 x0 7 c28.length).bind fun c34 =>
  lt1 (c34 ++ [(.inr (.inl (10, [])) : RC)]) fun c35 =>
  (gtR c35 11 x0 0).bind fun g36 =>
  (gtR c35 11 x0 1).bind fun g37 =>
  (gtR c35 11 x0 7).bind fun g38 =>
  bd2 (kX10_init B c34.length g36 g37 g38 c35 m33) fun c39 m40 =>
  (ptR c39 11 x0 8 c34.length).bind fun c41 =>
  lt1 (c41 ++ [(.inr (.inl (2, [])) : RC)]) fun c42 =>
  bd2 (kX2_init B c41.length c42 m40) fun c43 m44 =>
  (ptR c43 11 x0 9 c41.length).bind fun c45 =>
  lt1 (c45 ++ [(.inr (.inl (7, [])) : RC)]) fun c46 =>
  bd2 (kX7_init B c45.length c46 m44) fun c47 m48 =>
  (ptR c47 11 x0 10 c45.length).bind fun c49 =>
  lt1 (c49 ++ [(.inr (.inr (1, 3, [])) : RC)]) fun c50 =>
  (ptR c50 11 x0 11 c49.length).bind fun c51 =>
  (gtR c51 11 x0 11).bind fun g52 =>
  lt1 (c51 ++ [(.inr (.inl (3, [])) : RC)]) fun c53 =>
  bd2 (kX3_init B c51.length c53 m48) fun c54 m55 =>
  (stR c54 g52 0 c51.length).bind fun c56 =>
  (gtR c56 11 x0 11).bind fun g57 =>
  lt1 (c56 ++ [(.inr (.inl (3, [])) : RC)]) fun c58 =>
  bd2 (kX3_init B c56.length c58 m55) fun c59 m60 =>
  (stR c59 g57 1 c56.length).bind fun c61 =>
  (gtR c61 11 x0 11).bind fun g62 =>
  lt1 (c61 ++ [(.inr (.inl (3, [])) : RC)]) fun c63 =>
  bd2 (kX3_init B c61.length c63 m60) fun c64 m65 =>
  (stR c64 g62 2 c61.length).bind fun c66 =>
  lt1 (c66 ++ [(.inr (.inl (6, [])) : RC)]) fun c67 =>
  (gtR c67 11 x0 1).bind fun g68 =>
  (gtR c67 11 x0 5).bind fun g69 =>
  (gtR c67 11 x0 7).bind fun g70 =>
  bd2 (kX6_init B c66.length g68 g69 g70 c67 m65) fun c71 m72 =>
  (ptR c71 11 x0 14 c66.length).bind fun c73 =>
  lt1 (c73 ++ [(.inr (.inl (9, [])) : RC)]) fun c74 =>
  (gtR c74 11 x0 1).bind fun g75 =>
  (gtR c74 11 x0 7).bind fun g76 =>
  bd2 (kX9_init B c73.length g75 g76 c74 m72) fun c77 m78 =>
  (ptR c77 11 x0 15 c73.length).bind fun c79 =>
  some (c79, m78)
set_option maxHeartbeats 1000000 in
theorem yp_kT (B x0 : Nat) (c : List RC) (mm : Mem) : yp_kT11 B x0 c mm = (yp_lX11 x0 c).map (fun c => (c, mm)) := by
  simp only [yp_kT11, yp_lX11, lt1, yp_obM, yp_bdM, Option.map_some, yp_kl0, yp_kl5, yp_kl2, yp_kl7, yp_kl3, yp_kl10, yp_kl6, yp_kl9]
set_option maxHeartbeats 1000000 in
theorem yp_k11 : kX11_init B 0 [(.inr (.inl (11, [])) : RC)] m = some (yp_CE1, yp_M11 B m) := by
  have e1 : ptR [yp_ob 11 [], yp_ob 8 [some 2], .inl 600] 11 0 0 1 = some [yp_ob 11 [some 1], yp_ob 8 [some 2], .inl 600] := rfl
  have e2 : ptR [yp_ob 11 [some 1], yp_ob 8 [some 2], .inl 600, yp_ob 1 [some 4, some 5, some 6], .inl 42, .inl 8, .inl 8] 11 0 1 3 = some [yp_ob 11 [some 1, some 3], yp_ob 8 [some 2], .inl 600, yp_ob 1 [some 4, some 5, some 6], .inl 42, .inl 8, .inl 8] := rfl
  have e3 : ptR [yp_ob 11 [some 1, some 3], yp_ob 8 [some 2], .inl 600, yp_ob 1 [some 4, some 5, some 6], .inl 42, .inl 8, .inl 8, yp_ob 1 [some 8, some 9, some 10], .inl 42, .inl 8, .inl 8] 11 0 2 7 = some [yp_ob 11 [some 1, some 3, some 7], yp_ob 8 [some 2], .inl 600, yp_ob 1 [some 4, some 5, some 6], .inl 42, .inl 8, .inl 8, yp_ob 1 [some 8, some 9, some 10], .inl 42, .inl 8, .inl 8] := rfl
  have e4 : ptR [yp_ob 11 [some 1, some 3, some 7], yp_ob 8 [some 2], .inl 600, yp_ob 1 [some 4, some 5, some 6], .inl 42, .inl 8, .inl 8, yp_ob 1 [some 8, some 9, some 10], .inl 42, .inl 8, .inl 8, yp_ob 4 [some 12, some 13], .inl 151, .inl 151] 11 0 3 11 = some [yp_ob 11 [some 1, some 3, some 7, some 11], yp_ob 8 [some 2], .inl 600, yp_ob 1 [some 4, some 5, some 6], .inl 42, .inl 8, .inl 8, yp_ob 1 [some 8, some 9, some 10], .inl 42, .inl 8, .inl 8, yp_ob 4 [some 12, some 13], .inl 151, .inl 151] := rfl
  have e5 : ptR [yp_ob 11 [some 1, some 3, some 7, some 11], yp_ob 8 [some 2], .inl 600, yp_ob 1 [some 4, some 5, some 6], .inl 42, .inl 8, .inl 8, yp_ob 1 [some 8, some 9, some 10], .inl 42, .inl 8, .inl 8, yp_ob 4 [some 12, some 13], .inl 151, .inl 151, yp_ob 4 [some 15, some 16], .inl 151, .inl 151] 11 0 4 14 = some yp_CA0 := rfl
  unfold kX11_init
  refine Eq.trans (yp_lt1N _ _) ?_
  refine Eq.trans (yp_bdP (yp_k8m (m := m)) _) ?_
  refine Eq.trans (yp_opP e1 _) ?_
  refine Eq.trans (yp_lt1N _ _) ?_
  refine Eq.trans (yp_bdP yp_k1a _) ?_
  refine Eq.trans (yp_opP e2 _) ?_
  refine Eq.trans (yp_lt1N _ _) ?_
  refine Eq.trans (yp_bdP yp_k1b _) ?_
  refine Eq.trans (yp_opP e3 _) ?_
  refine Eq.trans (yp_lt1N _ _) ?_
  refine Eq.trans (yp_bdP yp_k4a _) ?_
  refine Eq.trans (yp_opP e4 _) ?_
  refine Eq.trans (yp_lt1N _ _) ?_
  refine Eq.trans (yp_bdP yp_k4b _) ?_
  refine Eq.trans (yp_opP e5 _) ?_
  exact (yp_kT B 0 yp_CA0 (yp_M11 B m)).trans (by rw [yp_l11]; rfl)
end CTOR

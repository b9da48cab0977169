section CTOR2
variable {B : Nat} {m : Mem}
set_option maxHeartbeats 1000000 in
theorem yp_sgE {a : Nat} (h : a ≠ B + 542) : shL B yp_CE2 a = yp_SH B a := by
  unfold yp_SH shL
  by_cases g : a < B
  · rw [if_pos g, if_pos g]
  · rw [if_neg g, if_neg g]
    by_cases k : a - B < 542
    · unfold yp_CE
      rw [List.getElem?_append_left (by rw [yp_lenE2]; exact k)]
    · unfold yp_CE
      rw [List.getElem?_eq_none (by rw [yp_lenE2]; omega), List.getElem?_eq_none (by rw [List.length_append, yp_lenE2]; show 543 ≤ a - B; omega)]
set_option maxHeartbeats 1000000 in
theorem yp_gR {a c k : Nat} (h : a ≠ B + 542) : rR (shL B yp_CE2) c a k = rR (yp_SH B) c a k := by unfold rR; rw [yp_sgE h]
set_option maxHeartbeats 1000000 in
theorem yp_gI {a c k : Nat} (h : a ≠ B + 542) : rI (shL B yp_CE2) m c a k = rI (yp_SH B) m c a k := by unfold rI; rw [yp_sgE h]
set_option maxHeartbeats 1000000 in
theorem yp_gW {a c k : Nat} {v : Int32} (h : a ≠ B + 542) : wI (shL B yp_CE2) m c a k v = wI (yp_SH B) m c a k v := by unfold wI; rw [yp_sgE h]
set_option maxHeartbeats 1000000 in
theorem yp_gO {a c : Nat} (h : a ≠ B + 542) : isO (shL B yp_CE2) c a = isO (yp_SH B) c a := by unfold isO; rw [yp_sgE h]
set_option maxHeartbeats 1000000 in
theorem yp_gL {a : Nat} {i : Int32} (h : a ≠ B + 542) : aL (shL B yp_CE2) m a i = aL (yp_SH B) m a i := by unfold aL; rw [yp_sgE h]
set_option maxHeartbeats 1000000 in
theorem yp_gS {a : Nat} {i v : Int32} (h : a ≠ B + 542) : aS (shL B yp_CE2) m a i v = aS (yp_SH B) m a i v := by unfold aS; rw [yp_sgE h]
set_option maxHeartbeats 1000000 in
theorem yp_rfS (B : Nat) : rR (yp_SH B) 12 (B + 517) 36 = some (B + 532) ∧ rR (yp_SH B) 12 (B + 517) 10 = some (B + 520) ∧ rR (yp_SH B) 12 (B + 517) 11 = some (B + 521) ∧ rR (yp_SH B) 12 (B + 517) 12 = some (B + 522) ∧ rR (yp_SH B) 12 (B + 517) 13 = some (B + 523) := by
  refine ⟨?_, ?_, ?_, ?_, ?_⟩ <;> (rw [rR, yp_so517]; rfl)
set_option maxHeartbeats 1000000 in
theorem yp_b79E (x : Int32) (m : Mem) : fX12_sets_b79 (shL B yp_CE2) (B + 517) x m = fX12_sets_b79 (yp_SH B) (B + 517) x m := by
  have r := yp_rfS B
  simp (disch := omega) only [fX12_sets_b79, fX12_sets_j112, yp_gR, yp_gI, r, yp_sbN, yp_gL, yp_gS]
set_option maxHeartbeats 1000000 in
theorem yp_cpE1 (m : Mem) : fX12_copies (shL B yp_CE2) (B + 517) (B + 520) (B + 522) 42 m = fX12_copies (yp_SH B) (B + 517) (B + 520) (B + 522) 42 m :=
  (yp_c_copies (x0 := B + 517) m ((yp_sgE (by omega)).trans (yp_sa520 B)) ((yp_sgE (by omega)).trans (yp_sa522 B)) 42 (by omega) (by omega) (show B + 520 ≠ B + 522 by omega) (by omega)).trans (yp_c_copies (x0 := B + 517) m (yp_sa520 B) (yp_sa522 B) 42 (by omega) (by omega) (show B + 520 ≠ B + 522 by omega) (by omega)).symm
set_option maxHeartbeats 1000000 in
theorem yp_cpE2 (m : Mem) : fX12_copies (shL B yp_CE2) (B + 517) (B + 521) (B + 523) 16 m = fX12_copies (yp_SH B) (B + 517) (B + 521) (B + 523) 16 m :=
  (yp_c_copies (x0 := B + 517) m ((yp_sgE (by omega)).trans (yp_sa521 B)) ((yp_sgE (by omega)).trans (yp_sa523 B)) 16 (by omega) (by omega) (show B + 521 ≠ B + 523 by omega) (by omega)).trans (yp_c_copies (x0 := B + 517) m (yp_sa521 B) (yp_sa523 B) 16 (by omega) (by omega) (show B + 521 ≠ B + 523 by omega) (by omega)).symm
set_option maxHeartbeats 1000000 in
theorem yp_setsE (m : Mem) : fX12_sets (shL B yp_CE2) (B + 517) m = fX12_sets (yp_SH B) (B + 517) m := by
  have r := yp_rfS B
  have hM := yp_mS B
  simp (disch := omega) only [fX12_sets, fX12_sets_j119, yp_gI, yp_gW, yp_gR, yp_gO, r, hM, yp_sbN, yp_cpE1, yp_cpE2, yp_b79E, yp_lt1N]
set_option maxHeartbeats 1000000 in
theorem yp_len518 : (yp_CE1 ++ [yp_ob 12 []]).length = 518 := by rw [List.length_append, yp_lenE1]; rfl
def yp_CB0 : List RC := (yp_CE1 ++ [yp_ob 12 [none, some 518]]) ++ [(.inl 2 : RC)]
set_option maxHeartbeats 1000000 in
theorem yp_l12b : ptR ((yp_CE1 ++ [yp_ob 12 []]) ++ [(.inl 2 : RC)]) 12 517 1 518 = some yp_CB0 := yp_l12a
set_option maxHeartbeats 1000000 in
theorem yp_l12c : yp_lX12 517 yp_CB0 = some yp_CE2 := yp_l12
set_option maxHeartbeats 1000000 in
theorem yp_cb517 (v : Int32) (m : Mem) : wI (shL B yp_CB0) m 12 (B + 517) 8 v = some (up2 m (B + 517) 8 v) := by
  obtain ⟨rs, h1, h2, h3, h4⟩ := ptR_n yp_l12b
  rw [wI, shL_at, h2, List.getElem?_set_self h3]
  rfl
def yp_kT12 (B x0 : Nat) (c2 : List RC) (m3 : Mem) : Option (List RC × Mem) :=
  lt1 (c2 ++ [(.inl 600 : RC)]) fun c4 =>
  (ptR c4 12 x0 9 c2.length).bind fun c5 =>
  lt1 (c5 ++ [(.inl 42 : RC)]) fun c6 =>
  (ptR c6 12 x0 10 c5.length).bind fun c7 =>
  lt1 (c7 ++ [(.inl 16 : RC)]) fun c8 =>
  (ptR c8 12 x0 11 c7.length).bind fun c9 =>
  lt1 (c9 ++ [(.inl 42 : RC)]) fun c10 =>
  (ptR c10 12 x0 12 c9.length).bind fun c11 =>
  lt1 (c11 ++ [(.inl 16 : RC)]) fun c12 =>
  (ptR c12 12 x0 13 c11.length).bind fun c13 =>
  lt1 (c13 ++ [(.inl 150 : RC)]) fun c14 =>
  (ptR c14 12 x0 20 c13.length).bind fun c15 =>
  lt1 (c15 ++ [(.inl 150 : RC)]) fun c16 =>
  (ptR c16 12 x0 21 c15.length).bind fun c17 =>
  lt1 (c17 ++ [(.inl 150 : RC)]) fun c18 =>
  (ptR c18 12 x0 22 c17.length).bind fun c19 =>
  lt1 (c19 ++ [(.inl 150 : RC)]) fun c20 =>
  (ptR c20 12 x0 23 c19.length).bind fun c21 =>
  lt1 (c21 ++ [(.inl 150 : RC)]) fun c22 =>
  (ptR c22 12 x0 24 c21.length).bind fun c23 =>
  lt1 (c23 ++ [(.inl 8 : RC)]) fun c24 =>
  (ptR c24 12 x0 27 c23.length).bind fun c25 =>
  lt1 (c25 ++ [(.inl 200 : RC)]) fun c26 =>
  (ptR c26 12 x0 28 c25.length).bind fun c27 =>
  lt1 (c27 ++ [(.inl 200 : RC)]) fun c28 =>
  (ptR c28 12 x0 29 c27.length).bind fun c29 =>
  lt1 (c29 ++ [(.inl 175 : RC)]) fun c30 =>
  (ptR c30 12 x0 36 c29.length).bind fun c31 =>
  lt1 (c31 ++ [(.inl 175 : RC)]) fun c32 =>
  (ptR c32 12 x0 37 c31.length).bind fun c33 =>
  lt1 (c33 ++ [(.inl 2800 : RC)]) fun c34 =>
  (ptR c34 12 x0 38 c33.length).bind fun c35 =>
  lt1 (c35 ++ [(.inl 7 : RC)]) fun c36 =>
  (ptR c36 12 x0 39 c35.length).bind fun c37 =>
  lt1 (c37 ++ [(.inl 16 : RC)]) fun c38 =>
  (ptR c38 12 x0 40 c37.length).bind fun c39 =>
  lt1 (c39 ++ [(.inl 16 : RC)]) fun c40 =>
  (ptR c40 12 x0 41 c39.length).bind fun c41 =>
  lt1 (c41 ++ [(.inl 48 : RC)]) fun c42 =>
  (ptR c42 12 x0 43 c41.length).bind fun c43 =>
  lt1 (c43 ++ [(.inl 48 : RC)]) fun c44 =>
  (ptR c44 12 x0 44 c43.length).bind fun c45 =>
  lt1 (c45 ++ [(.inl 4752 : RC)]) fun c46 =>
  (ptR c46 12 x0 46 c45.length).bind fun c47 =>
  lt1 (c47 ++ [(.inl 8928 : RC)]) fun c48 =>
  (ptR c48 12 x0 48 c47.length).bind fun c49 =>
  (isO (shL B c49) 12 (B + x0)).bind fun _ =>
  (fX12_clears (shL B c49) (B + x0) m3).bind fun m50 =>
  (isO (shL B c49) 12 (B + x0)).bind fun _ =>
  (fX12_sets (shL B c49) (B + x0) m50).bind fun m51 =>
  some (c49, m51)
set_option maxHeartbeats 1000000 in
theorem yp_kU (B x0 : Nat) (c : List RC) (mm : Mem) : yp_kT12 B x0 c mm = (yp_lX12 x0 c).bind (fun c49 => (isO (shL B c49) 12 (B + x0)).bind fun _ => (fX12_clears (shL B c49) (B + x0) mm).bind fun m50 => (isO (shL B c49) 12 (B + x0)).bind fun _ => (fX12_sets (shL B c49) (B + x0) m50).bind fun m51 => some (c49, m51)) := by
  simp only [yp_kT12, yp_lX12, lt1, Option.bind_assoc, yp_sb]
def yp_M12 (B : Nat) (m : Mem) : Mem := up2 (up2 (up2 (up2 m (B + 517) 8 (-1)) (B + 517) 14 0) (B + 517) 15 0) (B + 517) 16 60
set_option maxHeartbeats 1000000 in
theorem yp_k12 {m' : Mem} (h : fX12_sets (yp_SH B) (B + 517) (yp_M12 B m) = some m') : kX12_init B yp_CE1.length (yp_CE1 ++ [(.inr (.inl (12, [])) : RC)]) m = some (yp_CE2, m') := by
  rw [yp_lenE1]
  unfold kX12_init
  refine Eq.trans (yp_lt1N _ _) ?_
  have e : ptR ((yp_CE1 ++ [yp_ob 12 []]) ++ [(.inl 2 : RC)]) 12 517 1 (yp_CE1 ++ [yp_ob 12 []]).length = some yp_CB0 := by rw [yp_len518]; exact yp_l12b
  refine Eq.trans (yp_opP e _) ?_
  refine Eq.trans (yp_opP (yp_cb517 (-1) m) _) ?_
  refine Eq.trans (yp_kU B 517 yp_CB0 (up2 m (B + 517) 8 (-1))) ?_
  refine Eq.trans (yp_opP yp_l12c _) ?_
  have o1 : isO (shL B yp_CE2) 12 (B + 517) = some () := (yp_gO (by omega)).trans (yp_isO12 B)
  have hM := yp_mS B
  have cl : fX12_clears (shL B yp_CE2) (B + 517) (up2 m (B + 517) 8 (-1)) = some (yp_M12 B m) := by
    simp (disch := omega) only [fX12_clears, yp_gW, hM, yp_sbN]
    rfl
  refine Eq.trans (yp_opP o1 _) ?_
  refine Eq.trans (yp_opP cl _) ?_
  refine Eq.trans (yp_opP o1 _) ?_
  exact yp_opP ((yp_setsE _).trans h) _
end CTOR2

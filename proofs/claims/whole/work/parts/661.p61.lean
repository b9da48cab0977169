section LOOP
variable {B : Nat} {mm : Mem} {A : yp_St} {L i : Nat} {xs : Nat → Int32}
set_option maxHeartbeats 1000000 in
theorem yp_PM_c {f : Option ((Int32 ⊕ Nat) × Mem)} {g : Mem → Option (Int32 × Mem)} {hc : Nat → Option Int32} (hM : yp_RMm B mm A) (h : yp_PM B f g hc mm A) : yp_COK B (bd2 ((isO (yp_SH B) 11 B).bind fun _ => bd2 f fun u m1 => sme u (fun r1 => (lS (yp_SH B) m1 (B + 542) 0 (r1.toInt64)).bind fun m2 => some (0, m2)) (fun k => (hc k).bind fun z => some (z, m1))) fun v2 m3 => lt1 v2 fun x5 => (isO (yp_SH B) 12 (B + 517)).bind fun _ => bd2 (g m3) fun v6 m7 => lt1 v6 fun x6 => (isO (yp_SH B) 12 (B + 517)).bind fun _ => (fX12_thrown (yp_SH B) (B + 517) m7).bind fun v9 => if v9 = x5 then (if x5 = 0 then ((lL (yp_SH B) m7 (B + 542) 0).bind fun v12 => if (lg_cmp v12 (x6.toInt64)) = 0 then (some (.inl m7) : Option (Mem ⊕ Int32)) else (some (.inr 0))) else (some (.inl m7))) else (some (.inr 0))) := by
  obtain ⟨o, t, v, A', hI', hC, hG, ho⟩ := h
  obtain ⟨m', e, r1, r2⟩ := yp_case_fin hM hI' hC hG ho
  exact ⟨m', A', e, r1, r2, hI'⟩
set_option maxHeartbeats 1000000 in
theorem yp_PV_c {f : Option (Int32 × Mem)} {g : Mem → Option (Int32 × Mem)} (hM : yp_RMm B mm A) (h : yp_PV B f g mm A) : yp_COK B ((isO (yp_SH B) 11 B).bind fun _ => bd2 f fun v1 m2 => (isO (yp_SH B) 12 (B + 517)).bind fun _ => bd2 (g m2) fun v3 m4 => if v1 = v3 then (some (.inl m4) : Option (Mem ⊕ Int32)) else (some (.inr 0))) := by
  obtain ⟨v, A', m1, hI', e1, r1, q1, hg⟩ := h
  obtain ⟨m2, e2, r2, q2⟩ := hg m1 (hM.fr (fun a j h => q1 a j (by unfold yp_KM at h; omega)))
  refine ⟨m2, A', ?_, r1.fr hI' (fun a j h => q2 a j (by unfold yp_KC at h; omega)), r2, hI'⟩
  rw [yp_opP (yp_isO11 B), yp_bdP e1, yp_opP (yp_isO12 B), yp_bdP e2, if_pos rfl]
set_option maxHeartbeats 1000000 in
theorem yp_PN_c {f : Option Int32} {g : Mem → Option (Int32 × Mem)} (hR : yp_RCc B mm A) (hI : yp_INV A) (hM : yp_RMm B mm A) (h : ∃ v, f = some v ∧ ∀ m, yp_RMm B m A → ∃ m2, g m = some (v, m2) ∧ yp_FM B m m2) : yp_COK B ((isO (yp_SH B) 11 B).bind fun _ => f.bind fun v1 => (isO (yp_SH B) 12 (B + 517)).bind fun _ => bd2 (g mm) fun v2 m3 => if v1 = v2 then (some (.inl m3) : Option (Mem ⊕ Int32)) else (some (.inr 0))) := by
  obtain ⟨v, e1, hg⟩ := h
  obtain ⟨m2, e2, q2⟩ := hg mm hM
  refine ⟨m2, A, ?_, hR.fr hI (fun a j h => (q2 a j (.inr (.inl (by unfold yp_KC at h; omega)))).trans (yp_m0n (by unfold yp_KC at h; omega))), hM.fr (fun a j h => (q2 a j (.inl h)).trans (yp_m0n (by unfold yp_KM at h; omega))), hI⟩
  rw [yp_opP (yp_isO11 B), yp_opP e1, yp_opP (yp_isO12 B), yp_bdP e2, if_pos rfl]
set_option maxHeartbeats 1000000 in
theorem yp_PL_c {f : Option ((Int64 ⊕ Nat) × Mem)} {g : Mem → Option (Int64 × Mem)} (hR : yp_RCc B mm A) (hI : yp_INV A) (hM : yp_RMm B mm A) (h : yp_PL B f g mm A) : yp_COK B (bd2 ((isO (yp_SH B) 11 B).bind fun _ => bd2 f fun u m1 => sme u (fun r1 => (lS (yp_SH B) m1 (B + 542) 0 r1).bind fun m2 => some (0, m2)) (fun k => (hcI k).bind fun z => some (z, m1))) fun v2 m3 => lt1 v2 fun x5 => (isO (yp_SH B) 12 (B + 517)).bind fun _ => bd2 (g m3) fun v6 m7 => lt1 v6 fun x6 => (isO (yp_SH B) 12 (B + 517)).bind fun _ => (fX12_thrown (yp_SH B) (B + 517) m7).bind fun v9 => if v9 = x5 then (if x5 = 0 then ((lL (yp_SH B) m7 (B + 542) 0).bind fun v12 => if (lg_cmp v12 x6) = 0 then (some (.inl m7) : Option (Mem ⊕ Int32)) else (some (.inr 0))) else (some (.inl m7))) else (some (.inr 0))) := by
  rcases h with ⟨v, e1, hg⟩ | ⟨e1, hg⟩
  · obtain ⟨m2, e2, c2, q2⟩ := yp_fL_lS B mm v
    have R2 : yp_RMm B m2 A := hM.fr (fun a j h => q2 a j (by unfold yp_KM at h; omega))
    have e3 := hg m2 R2
    have t3 : fX12_thrown (yp_SH B) (B + 517) (yp_m0 B m2) = some 0 := (yp_m_thrown B _).trans (congrArg some (yp_m0t B m2))
    have l3 : lL (yp_SH B) (yp_m0 B m2) (B + 542) 0 = some v := (yp_fL_lL B _).trans (by rw [yp_m0n (by omega), yp_m0n (by omega), c2])
    refine ⟨yp_m0 B m2, A, ?_, hR.fr hI (fun a j h => (yp_m0n (by unfold yp_KC at h; omega)).trans (q2 a j (by unfold yp_KC at h; omega))), yp_m0R R2, hI⟩
    rw [yp_opP (yp_isO11 B), yp_bdP e1]
    simp only [sme, yp_opP e2, yp_sb2, lt1, yp_opP (yp_isO12 B), yp_bdP e3, yp_opP t3, yp_opP l3, if_true, yp_lg_self]
  · obtain ⟨m1, e2, r1, q1⟩ := yp_CA_e1 (f := some (.inr 1, up2 mm B 17 (yp_sC1 A + yp_N 1))) hR hI rfl
    have e4 : up2 mm B 17 (yp_sC1 A + yp_N 1) = m1 := congrArg Prod.snd (Option.some.inj e2)
    rw [e4] at e1
    have R2 : yp_RMm B m1 A := hM.fr (fun a j h => q1 a j (by unfold yp_KM at h; omega))
    have e3 := hg m1 R2
    have hm := yp_MA_e (B := B) (k := 1) (v := yp_N 0) (w := yp_N 0) (c := yp_N 1) (f := some (yp_N 0, yp_XE B m1 1 (yp_N 1))) (by omega) R2 rfl yp_n1
    obtain ⟨m3, w, g1, g2, g3, g4, g5⟩ := hm
    have g1 : yp_XE B m1 1 (yp_N 1) = m3 := congrArg Prod.snd (Option.some.inj g1)
    rw [g1] at e3
    have t3 : fX12_thrown (yp_SH B) (B + 517) m3 = some 1 := (yp_m_thrown B _).trans (congrArg some g2)
    have h1 : hcI 1 = some 1 := rfl
    refine ⟨m3, yp_ex1 A, ?_, r1.fr hI.e1 (fun a j h => g5 a j (by unfold yp_KC at h; omega)), g4, hI.e1⟩
    rw [yp_opP (yp_isO11 B), yp_bdP e1]
    simp only [sme, yp_opP h1, yp_sb2, lt1, yp_opP (yp_isO12 B), yp_bdP e3, yp_opP t3, if_true, (show ¬ (1 : Int32) = 0 by decide), if_false]
set_option maxHeartbeats 1000000 in
theorem yp_sc1 (hi : i + 9 ≤ L) (hL : L ≤ 4608) : scL L xs (yp_N i + 1) = some (xs (i + 1)) := by
  rw [show (1 : Int32) = yp_N 1 from rfl, yp_nA]; exact yp_scN (by omega) hL
set_option maxHeartbeats 1000000 in
theorem yp_sc2 (hi : i + 9 ≤ L) (hL : L ≤ 4608) : scL L xs (yp_N i + 2) = some (xs (i + 2)) := by
  rw [show (2 : Int32) = yp_N 2 from rfl, yp_nA]; exact yp_scN (by omega) hL
set_option maxHeartbeats 1000000 in
theorem yp_sc3 (hi : i + 9 ≤ L) (hL : L ≤ 4608) : scL L xs (yp_N i + 3) = some (xs (i + 3)) := by
  rw [show (3 : Int32) = yp_N 3 from rfl, yp_nA]; exact yp_scN (by omega) hL
set_option maxHeartbeats 1000000 in
theorem yp_sc4 (hi : i + 9 ≤ L) (hL : L ≤ 4608) : scL L xs (yp_N i + 4) = some (xs (i + 4)) := by
  rw [show (4 : Int32) = yp_N 4 from rfl, yp_nA]; exact yp_scN (by omega) hL
set_option maxHeartbeats 1000000 in
theorem yp_sc5 (hi : i + 9 ≤ L) (hL : L ≤ 4608) : scL L xs (yp_N i + 5) = some (xs (i + 5)) := by
  rw [show (5 : Int32) = yp_N 5 from rfl, yp_nA]; exact yp_scN (by omega) hL
set_option maxHeartbeats 1000000 in
theorem yp_sc6 (hi : i + 9 ≤ L) (hL : L ≤ 4608) : scL L xs (yp_N i + 6) = some (xs (i + 6)) := by
  rw [show (6 : Int32) = yp_N 6 from rfl, yp_nA]; exact yp_scN (by omega) hL
set_option maxHeartbeats 1000000 in
theorem yp_sc7 (hi : i + 9 ≤ L) (hL : L ≤ 4608) : scL L xs (yp_N i + 7) = some (xs (i + 7)) := by
  rw [show (7 : Int32) = yp_N 7 from rfl, yp_nA]; exact yp_scN (by omega) hL
set_option maxHeartbeats 1000000 in
theorem yp_sc8 (hi : i + 9 ≤ L) (hL : L ≤ 4608) : scL L xs (yp_N i + 8) = some (xs (i + 8)) := by
  rw [show (8 : Int32) = yp_N 8 from rfl, yp_nA]; exact yp_scN (by omega) hL
set_option maxHeartbeats 1000000 in
theorem yp_lc_0 (hR : yp_RCc B mm A) (hI : yp_INV A) (hM : yp_RMm B mm A) (hi : i + 9 ≤ L) (hL : L ≤ 4608) : yp_COK B (fLc_0 (yp_SH B) L xs B (B + 517) (B + 542) (yp_N i) mm) := by
  have h := yp_PV_c hM (yp_p_feed hR hI (xs (i + 1)) (xs (i + 2)) (xs (i + 3)) (xs (i + 4)) (xs (i + 5)))
  unfold fLc_0
  simp only [yp_opP (yp_sc1 hi hL), yp_opP (yp_sc2 hi hL), yp_opP (yp_sc3 hi hL), yp_opP (yp_sc4 hi hL), yp_opP (yp_sc5 hi hL)]
  exact h
set_option maxHeartbeats 1000000 in
theorem yp_lc_1 (hR : yp_RCc B mm A) (hI : yp_INV A) (hM : yp_RMm B mm A) (hi : i + 9 ≤ L) (hL : L ≤ 4608) : yp_COK B (fLc_1 (yp_SH B) L xs B (B + 517) (B + 542) (yp_N i) mm) := by
  have h := yp_PM_c hM (yp_p_college hR hI (xs (i + 1)))
  unfold fLc_1
  simp only [yp_opP (yp_sc1 hi hL)]
  exact h
set_option maxHeartbeats 1000000 in
theorem yp_lc_2 (hR : yp_RCc B mm A) (hI : yp_INV A) (hM : yp_RMm B mm A) (hi : i + 9 ≤ L) (hL : L ≤ 4608) : yp_COK B (fLc_2 (yp_SH B) L xs B (B + 517) (B + 542) (yp_N i) mm) := by
  have h := yp_PM_c hM (yp_p_law hR hI (xs (i + 1)))
  unfold fLc_2
  simp only [yp_opP (yp_sc1 hi hL)]
  exact h
set_option maxHeartbeats 1000000 in
theorem yp_lc_3 (hR : yp_RCc B mm A) (hI : yp_INV A) (hM : yp_RMm B mm A) (hi : i + 9 ≤ L) (hL : L ≤ 4608) : yp_COK B (fLc_3 (yp_SH B) L xs B (B + 517) (B + 542) (yp_N i) mm) := by
  have h := yp_PM_c hM (yp_p_work hR hI (xs (i + 1)))
  unfold fLc_3
  simp only [yp_opP (yp_sc1 hi hL)]
  exact h
set_option maxHeartbeats 1000000 in
theorem yp_lc_4 (hR : yp_RCc B mm A) (hI : yp_INV A) (hM : yp_RMm B mm A) (hi : i + 9 ≤ L) (hL : L ≤ 4608) : yp_COK B (fLc_4 (yp_SH B) L xs B (B + 517) (B + 542) (yp_N i) mm) := by
  have h := yp_PM_c hM (yp_p_book hR hI (xs (i + 1)))
  unfold fLc_4
  simp only [yp_opP (yp_sc1 hi hL)]
  exact h
set_option maxHeartbeats 1000000 in
theorem yp_lc_5 (hR : yp_RCc B mm A) (hI : yp_INV A) (hM : yp_RMm B mm A) (hi : i + 9 ≤ L) (hL : L ≤ 4608) : yp_COK B (fLc_5 (yp_SH B) L xs B (B + 517) (B + 542) (yp_N i) mm) := by
  have h := yp_PN_c hR hI hM (yp_p_fault hR hI )
  unfold fLc_5
  exact h
set_option maxHeartbeats 1000000 in
theorem yp_lc_6 (hR : yp_RCc B mm A) (hI : yp_INV A) (hM : yp_RMm B mm A) (hi : i + 9 ≤ L) (hL : L ≤ 4608) : yp_COK B (fLc_6 (yp_SH B) L xs B (B + 517) (B + 542) (yp_N i) mm) := by
  have h := yp_PV_c hM (yp_p_undo hR hI )
  unfold fLc_6
  exact h
set_option maxHeartbeats 1000000 in
theorem yp_lc_7 (hR : yp_RCc B mm A) (hI : yp_INV A) (hM : yp_RMm B mm A) (hi : i + 9 ≤ L) (hL : L ≤ 4608) : yp_COK B (fLc_7 (yp_SH B) L xs B (B + 517) (B + 542) (yp_N i) mm) := by
  have h := yp_PM_c hM (yp_p_told hR hI (xs (i + 1)))
  unfold fLc_7
  simp only [yp_opP (yp_sc1 hi hL)]
  exact h
set_option maxHeartbeats 1000000 in
theorem yp_lc_8 (hR : yp_RCc B mm A) (hI : yp_INV A) (hM : yp_RMm B mm A) (hi : i + 9 ≤ L) (hL : L ≤ 4608) : yp_COK B (fLc_8 (yp_SH B) L xs B (B + 517) (B + 542) (yp_N i) mm) := by
  have h := yp_PM_c hM (yp_p_fellow hR hI (xs (i + 1)) (xs (i + 2)))
  unfold fLc_8
  simp only [yp_opP (yp_sc1 hi hL), yp_opP (yp_sc2 hi hL)]
  exact h
set_option maxHeartbeats 1000000 in
theorem yp_lc_9 (hR : yp_RCc B mm A) (hI : yp_INV A) (hM : yp_RMm B mm A) (hi : i + 9 ≤ L) (hL : L ≤ 4608) : yp_COK B (fLc_9 (yp_SH B) L xs B (B + 517) (B + 542) (yp_N i) mm) := by
  have h := yp_PM_c hM (yp_p_part hR hI (xs (i + 1)) (xs (i + 2)) (xs (i + 3)))
  unfold fLc_9
  simp only [yp_opP (yp_sc1 hi hL), yp_opP (yp_sc2 hi hL), yp_opP (yp_sc3 hi hL)]
  exact h
set_option maxHeartbeats 1000000 in
theorem yp_lc_10 (hR : yp_RCc B mm A) (hI : yp_INV A) (hM : yp_RMm B mm A) (hi : i + 9 ≤ L) (hL : L ≤ 4608) : yp_COK B (fLc_10 (yp_SH B) L xs B (B + 517) (B + 542) (yp_N i) mm) := by
  have h := yp_PM_c hM (yp_p_glass hR hI (xs (i + 1)) (xs (i + 2)))
  unfold fLc_10
  simp only [yp_opP (yp_sc1 hi hL), yp_opP (yp_sc2 hi hL)]
  exact h
set_option maxHeartbeats 1000000 in
theorem yp_lc_11 (hR : yp_RCc B mm A) (hI : yp_INV A) (hM : yp_RMm B mm A) (hi : i + 9 ≤ L) (hL : L ≤ 4608) : yp_COK B (fLc_11 (yp_SH B) L xs B (B + 517) (B + 542) (yp_N i) mm) := by
  have h := yp_PM_c hM (yp_p_place hR hI (xs (i + 1)))
  unfold fLc_11
  simp only [yp_opP (yp_sc1 hi hL)]
  exact h
set_option maxHeartbeats 1000000 in
theorem yp_lc_12 (hR : yp_RCc B mm A) (hI : yp_INV A) (hM : yp_RMm B mm A) (hi : i + 9 ≤ L) (hL : L ≤ 4608) : yp_COK B (fLc_12 (yp_SH B) L xs B (B + 517) (B + 542) (yp_N i) mm) := by
  have h := yp_PM_c hM (yp_p_turn hR hI (xs (i + 1)) (xs (i + 2)) (xs (i + 3)))
  unfold fLc_12
  simp only [yp_opP (yp_sc1 hi hL), yp_opP (yp_sc2 hi hL), yp_opP (yp_sc3 hi hL)]
  exact h
set_option maxHeartbeats 1000000 in
theorem yp_lc_13 (hR : yp_RCc B mm A) (hI : yp_INV A) (hM : yp_RMm B mm A) (hi : i + 9 ≤ L) (hL : L ≤ 4608) : yp_COK B (fLc_13 (yp_SH B) L xs B (B + 517) (B + 542) (yp_N i) mm) := by
  have h := yp_PM_c hM (yp_p_would hR hI (xs (i + 1)) (xs (i + 2)) (xs (i + 3)) (xs (i + 4)) (xs (i + 5)) (xs (i + 6)) (xs (i + 7)) (xs (i + 8)))
  unfold fLc_13
  simp only [yp_opP (yp_sc1 hi hL), yp_opP (yp_sc2 hi hL), yp_opP (yp_sc3 hi hL), yp_opP (yp_sc4 hi hL), yp_opP (yp_sc5 hi hL), yp_opP (yp_sc6 hi hL), yp_opP (yp_sc7 hi hL), yp_opP (yp_sc8 hi hL)]
  exact h
set_option maxHeartbeats 1000000 in
theorem yp_lc_14 (hR : yp_RCc B mm A) (hI : yp_INV A) (hM : yp_RMm B mm A) (hi : i + 9 ≤ L) (hL : L ≤ 4608) : yp_COK B (fLc_14 (yp_SH B) L xs B (B + 517) (B + 542) (yp_N i) mm) := by
  have h := yp_PM_c hM (yp_p_ahead hR hI (xs (i + 1)) (xs (i + 2)))
  unfold fLc_14
  simp only [yp_opP (yp_sc1 hi hL), yp_opP (yp_sc2 hi hL)]
  exact h
set_option maxHeartbeats 1000000 in
theorem yp_lc_15 (hR : yp_RCc B mm A) (hI : yp_INV A) (hM : yp_RMm B mm A) (hi : i + 9 ≤ L) (hL : L ≤ 4608) : yp_COK B (fLc_15 (yp_SH B) L xs B (B + 517) (B + 542) (yp_N i) mm) := by
  have h := yp_PM_c hM (yp_p_spread hR hI (xs (i + 1)))
  unfold fLc_15
  simp only [yp_opP (yp_sc1 hi hL)]
  exact h
set_option maxHeartbeats 1000000 in
theorem yp_lc_16 (hR : yp_RCc B mm A) (hI : yp_INV A) (hM : yp_RMm B mm A) (hi : i + 9 ≤ L) (hL : L ≤ 4608) : yp_COK B (fLc_16 (yp_SH B) L xs B (B + 517) (B + 542) (yp_N i) mm) := by
  have h := yp_PM_c hM (yp_p_bow hR hI (xs (i + 1)))
  unfold fLc_16
  simp only [yp_opP (yp_sc1 hi hL)]
  exact h
set_option maxHeartbeats 1000000 in
theorem yp_lc_17 (hR : yp_RCc B mm A) (hI : yp_INV A) (hM : yp_RMm B mm A) (hi : i + 9 ≤ L) (hL : L ≤ 4608) : yp_COK B (fLc_17 (yp_SH B) L xs B (B + 517) (B + 542) (yp_N i) mm) := by
  have h := yp_PM_c hM (yp_p_through hR hI (xs (i + 1)) (xs (i + 2)) (xs (i + 3)))
  unfold fLc_17
  simp only [yp_opP (yp_sc1 hi hL), yp_opP (yp_sc2 hi hL), yp_opP (yp_sc3 hi hL)]
  exact h
set_option maxHeartbeats 1000000 in
theorem yp_lc_18 (hR : yp_RCc B mm A) (hI : yp_INV A) (hM : yp_RMm B mm A) (hi : i + 9 ≤ L) (hL : L ≤ 4608) : yp_COK B (fLc_18 (yp_SH B) L xs B (B + 517) (B + 542) (yp_N i) mm) := by
  have h := yp_PM_c hM (yp_p_serves hR hI (xs (i + 1)) (xs (i + 2)))
  unfold fLc_18
  simp only [yp_opP (yp_sc1 hi hL), yp_opP (yp_sc2 hi hL)]
  exact h
set_option maxHeartbeats 1000000 in
theorem yp_lc_19 (hR : yp_RCc B mm A) (hI : yp_INV A) (hM : yp_RMm B mm A) (hi : i + 9 ≤ L) (hL : L ≤ 4608) : yp_COK B (fLc_19 (yp_SH B) L xs B (B + 517) (B + 542) (yp_N i) mm) := by
  have h := yp_PM_c hM (yp_p_fits hR hI (xs (i + 1)))
  unfold fLc_19
  simp only [yp_opP (yp_sc1 hi hL)]
  exact h
set_option maxHeartbeats 1000000 in
theorem yp_lc_20 (hR : yp_RCc B mm A) (hI : yp_INV A) (hM : yp_RMm B mm A) (hi : i + 9 ≤ L) (hL : L ≤ 4608) : yp_COK B (fLc_20 (yp_SH B) L xs B (B + 517) (B + 542) (yp_N i) mm) := by
  have h := yp_PM_c hM (yp_p_look hR hI (xs (i + 1)))
  unfold fLc_20
  simp only [yp_opP (yp_sc1 hi hL)]
  exact h
set_option maxHeartbeats 1000000 in
theorem yp_lc_21 (hR : yp_RCc B mm A) (hI : yp_INV A) (hM : yp_RMm B mm A) (hi : i + 9 ≤ L) (hL : L ≤ 4608) : yp_COK B (fLc_21 (yp_SH B) L xs B (B + 517) (B + 542) (yp_N i) mm) := by
  have h := yp_PM_c hM (yp_p_swings hR hI (xs (i + 1)) (xs (i + 2)) (xs (i + 3)))
  unfold fLc_21
  simp only [yp_opP (yp_sc1 hi hL), yp_opP (yp_sc2 hi hL), yp_opP (yp_sc3 hi hL)]
  exact h
set_option maxHeartbeats 1000000 in
theorem yp_lc_22 (hR : yp_RCc B mm A) (hI : yp_INV A) (hM : yp_RMm B mm A) (hi : i + 9 ≤ L) (hL : L ≤ 4608) : yp_COK B (fLc_22 (yp_SH B) L xs B (B + 517) (B + 542) (yp_N i) mm) := by
  have h := yp_PM_c hM (yp_p_power hR hI (xs (i + 1)) (xs (i + 2)) (xs (i + 3)) (xs (i + 4)))
  unfold fLc_22
  simp only [yp_opP (yp_sc1 hi hL), yp_opP (yp_sc2 hi hL), yp_opP (yp_sc3 hi hL), yp_opP (yp_sc4 hi hL)]
  exact h
set_option maxHeartbeats 1000000 in
theorem yp_lc_23 (hR : yp_RCc B mm A) (hI : yp_INV A) (hM : yp_RMm B mm A) (hi : i + 9 ≤ L) (hL : L ≤ 4608) : yp_COK B (fLc_23 (yp_SH B) L xs B (B + 517) (B + 542) (yp_N i) mm) := by
  have h := yp_PL_c hR hI hM (yp_p_green hR hI (xs (i + 1)) (xs (i + 2)) (xs (i + 3)))
  unfold fLc_23
  simp only [yp_opP (yp_sc1 hi hL), yp_opP (yp_sc2 hi hL), yp_opP (yp_sc3 hi hL)]
  exact h
set_option maxHeartbeats 1000000 in
theorem yp_lc_24 (hR : yp_RCc B mm A) (hI : yp_INV A) (hM : yp_RMm B mm A) (hi : i + 9 ≤ L) (hL : L ≤ 4608) : yp_COK B (fLc_24 (yp_SH B) L xs B (B + 517) (B + 542) (yp_N i) mm) := by
  have h := yp_PM_c hM (yp_p_lookers hR hI (xs (i + 1)) (xs (i + 2)) (xs (i + 3)))
  unfold fLc_24
  simp only [yp_opP (yp_sc1 hi hL), yp_opP (yp_sc2 hi hL), yp_opP (yp_sc3 hi hL)]
  exact h
set_option maxHeartbeats 1000000 in
theorem yp_lc_25 (hR : yp_RCc B mm A) (hI : yp_INV A) (hM : yp_RMm B mm A) (hi : i + 9 ≤ L) (hL : L ≤ 4608) : yp_COK B (fLc_25 (yp_SH B) L xs B (B + 517) (B + 542) (yp_N i) mm) := by
  have h := yp_PM_c hM (yp_p_light hR hI (xs (i + 1)) (xs (i + 2)) (xs (i + 3)))
  unfold fLc_25
  simp only [yp_opP (yp_sc1 hi hL), yp_opP (yp_sc2 hi hL), yp_opP (yp_sc3 hi hL)]
  exact h
set_option maxHeartbeats 1000000 in
theorem yp_lc_26 (hR : yp_RCc B mm A) (hI : yp_INV A) (hM : yp_RMm B mm A) (hi : i + 9 ≤ L) (hL : L ≤ 4608) : yp_COK B (fLc_26 (yp_SH B) L xs B (B + 517) (B + 542) (yp_N i) mm) := by
  have h := yp_PM_c hM (yp_p_broadest hR hI (xs (i + 1)))
  unfold fLc_26
  simp only [yp_opP (yp_sc1 hi hL)]
  exact h
set_option maxHeartbeats 1000000 in
theorem yp_lc_27 (hR : yp_RCc B mm A) (hI : yp_INV A) (hM : yp_RMm B mm A) (hi : i + 9 ≤ L) (hL : L ≤ 4608) : yp_COK B (fLc_27 (yp_SH B) L xs B (B + 517) (B + 542) (yp_N i) mm) := by
  have h := yp_PM_c hM (yp_p_strongest hR hI (xs (i + 1)) (xs (i + 2)))
  unfold fLc_27
  simp only [yp_opP (yp_sc1 hi hL), yp_opP (yp_sc2 hi hL)]
  exact h
set_option maxHeartbeats 1000000 in
theorem yp_lc_28 (hR : yp_RCc B mm A) (hI : yp_INV A) (hM : yp_RMm B mm A) (hi : i + 9 ≤ L) (hL : L ≤ 4608) : yp_COK B (fLc_28 (yp_SH B) L xs B (B + 517) (B + 542) (yp_N i) mm) := by
  have h := yp_PM_c hM (yp_p_joins hR hI (xs (i + 1)) (xs (i + 2)))
  unfold fLc_28
  simp only [yp_opP (yp_sc1 hi hL), yp_opP (yp_sc2 hi hL)]
  exact h
set_option maxHeartbeats 1000000 in
theorem yp_lc_29 (hR : yp_RCc B mm A) (hI : yp_INV A) (hM : yp_RMm B mm A) (hi : i + 9 ≤ L) (hL : L ≤ 4608) : yp_COK B (fLc_29 (yp_SH B) L xs B (B + 517) (B + 542) (yp_N i) mm) := by
  have h := yp_PM_c hM (yp_p_blurs hR hI (xs (i + 1)))
  unfold fLc_29
  simp only [yp_opP (yp_sc1 hi hL)]
  exact h
set_option maxHeartbeats 1000000 in
theorem yp_lc_30 (hR : yp_RCc B mm A) (hI : yp_INV A) (hM : yp_RMm B mm A) (hi : i + 9 ≤ L) (hL : L ≤ 4608) : yp_COK B (fLc_30 (yp_SH B) L xs B (B + 517) (B + 542) (yp_N i) mm) := by
  have h := yp_PN_c hR hI hM (yp_p_lit hR hI )
  unfold fLc_30
  exact h
set_option maxHeartbeats 1000000 in
theorem yp_lc_31 (hR : yp_RCc B mm A) (hI : yp_INV A) (hM : yp_RMm B mm A) (hi : i + 9 ≤ L) (hL : L ≤ 4608) : yp_COK B (fLc_31 (yp_SH B) L xs B (B + 517) (B + 542) (yp_N i) mm) := by
  have h := yp_PM_c hM (yp_p_lacks hR hI (xs (i + 1)) (xs (i + 2)))
  unfold fLc_31
  simp only [yp_opP (yp_sc1 hi hL), yp_opP (yp_sc2 hi hL)]
  exact h
set_option maxHeartbeats 1000000 in
theorem yp_lc_32 (hR : yp_RCc B mm A) (hI : yp_INV A) (hM : yp_RMm B mm A) (hi : i + 9 ≤ L) (hL : L ≤ 4608) : yp_COK B (fLc_32 (yp_SH B) L xs B (B + 517) (B + 542) (yp_N i) mm) := by
  have h := yp_PM_c hM (yp_p_mates hR hI (xs (i + 1)))
  unfold fLc_32
  simp only [yp_opP (yp_sc1 hi hL)]
  exact h
set_option maxHeartbeats 1000000 in
theorem yp_lc_33 (hR : yp_RCc B mm A) (hI : yp_INV A) (hM : yp_RMm B mm A) (hi : i + 9 ≤ L) (hL : L ≤ 4608) : yp_COK B (fLc_33 (yp_SH B) L xs B (B + 517) (B + 542) (yp_N i) mm) := by
  have h := yp_PM_c hM (yp_p_first hR hI (xs (i + 1)))
  unfold fLc_33
  simp only [yp_opP (yp_sc1 hi hL)]
  exact h
set_option maxHeartbeats 1000000 in
theorem yp_lc_34 (hR : yp_RCc B mm A) (hI : yp_INV A) (hM : yp_RMm B mm A) (hi : i + 9 ≤ L) (hL : L ≤ 4608) : yp_COK B (fLc_34 (yp_SH B) L xs B (B + 517) (B + 542) (yp_N i) mm) := by
  have h := yp_PM_c hM (yp_p_halo hR hI (xs (i + 1)) (xs (i + 2)))
  unfold fLc_34
  simp only [yp_opP (yp_sc1 hi hL), yp_opP (yp_sc2 hi hL)]
  exact h
set_option maxHeartbeats 1000000 in
theorem yp_lc_35 (hR : yp_RCc B mm A) (hI : yp_INV A) (hM : yp_RMm B mm A) (hi : i + 9 ≤ L) (hL : L ≤ 4608) : yp_COK B (fLc_35 (yp_SH B) L xs B (B + 517) (B + 542) (yp_N i) mm) := by
  have h := yp_PM_c hM (yp_p_term hR hI (xs (i + 1)) (xs (i + 2)) (xs (i + 3)) (xs (i + 4)))
  unfold fLc_35
  simp only [yp_opP (yp_sc1 hi hL), yp_opP (yp_sc2 hi hL), yp_opP (yp_sc3 hi hL), yp_opP (yp_sc4 hi hL)]
  exact h
set_option maxHeartbeats 1000000 in
theorem yp_lc_36 (hR : yp_RCc B mm A) (hI : yp_INV A) (hM : yp_RMm B mm A) (hi : i + 9 ≤ L) (hL : L ≤ 4608) : yp_COK B (fLc_36 (yp_SH B) L xs B (B + 517) (B + 542) (yp_N i) mm) := by
  have h := yp_PM_c hM (yp_p_span hR hI (xs (i + 1)) (xs (i + 2)) (xs (i + 3)) (xs (i + 4)) (xs (i + 5)) (xs (i + 6)))
  unfold fLc_36
  simp only [yp_opP (yp_sc1 hi hL), yp_opP (yp_sc2 hi hL), yp_opP (yp_sc3 hi hL), yp_opP (yp_sc4 hi hL), yp_opP (yp_sc5 hi hL), yp_opP (yp_sc6 hi hL)]
  exact h
set_option maxHeartbeats 1000000 in
theorem yp_lc_37 (hR : yp_RCc B mm A) (hI : yp_INV A) (hM : yp_RMm B mm A) (hi : i + 9 ≤ L) (hL : L ≤ 4608) : yp_COK B (fLc_37 (yp_SH B) L xs B (B + 517) (B + 542) (yp_N i) mm) := by
  have h := yp_PV_c hM (yp_p_image hR hI )
  unfold fLc_37
  exact h
set_option maxHeartbeats 1000000 in
theorem yp_lc_38 (hR : yp_RCc B mm A) (hI : yp_INV A) (hM : yp_RMm B mm A) (hi : i + 9 ≤ L) (hL : L ≤ 4608) : yp_COK B (fLc_38 (yp_SH B) L xs B (B + 517) (B + 542) (yp_N i) mm) := by
  have h := yp_PV_c hM (yp_p_restore hR hI )
  unfold fLc_38
  exact h
set_option maxHeartbeats 1000000 in
theorem yp_lc_39 (hR : yp_RCc B mm A) (hI : yp_INV A) (hM : yp_RMm B mm A) (hi : i + 9 ≤ L) (hL : L ≤ 4608) : yp_COK B (fLc_39 (yp_SH B) L xs B (B + 517) (B + 542) (yp_N i) mm) := by
  have h := yp_PN_c hR hI hM (yp_p_status hR hI (xs (i + 1)))
  unfold fLc_39
  simp only [yp_opP (yp_sc1 hi hL)]
  exact h
set_option maxHeartbeats 1000000 in
theorem yp_lc_40 (hR : yp_RCc B mm A) (hI : yp_INV A) (hM : yp_RMm B mm A) (hi : i + 9 ≤ L) (hL : L ≤ 4608) : yp_COK B (fLc_40 (yp_SH B) L xs B (B + 517) (B + 542) (yp_N i) mm) := by
  have h := yp_PN_c hR hI hM (yp_p_count hR hI (xs (i + 1)))
  unfold fLc_40
  simp only [yp_opP (yp_sc1 hi hL)]
  exact h
set_option maxHeartbeats 1000000 in
theorem yp_COK_if {c : Prop} [Decidable c] {a b : Option (Mem ⊕ Int32)} (h1 : yp_COK B a) (h2 : yp_COK B b) : yp_COK B (if c then a else b) := by
  by_cases h : c
  · rw [if_pos h]; exact h1
  · rw [if_neg h]; exact h2
set_option maxHeartbeats 1000000 in
theorem yp_lc_all (hR : yp_RCc B mm A) (hI : yp_INV A) (hM : yp_RMm B mm A) (hi : i + 9 ≤ L) (hL : L ≤ 4608) (t : Int32) : yp_COK B (fL_cases (yp_SH B) L xs B (B + 517) (B + 542) (yp_N i) mm t) := by
  unfold fL_cases
  refine yp_COK_if (yp_lc_0 hR hI hM hi hL) ?_
  refine yp_COK_if (yp_lc_1 hR hI hM hi hL) ?_
  refine yp_COK_if (yp_lc_2 hR hI hM hi hL) ?_
  refine yp_COK_if (yp_lc_3 hR hI hM hi hL) ?_
  refine yp_COK_if (yp_lc_4 hR hI hM hi hL) ?_
  refine yp_COK_if (yp_lc_5 hR hI hM hi hL) ?_
  refine yp_COK_if (yp_lc_6 hR hI hM hi hL) ?_
  refine yp_COK_if (yp_lc_7 hR hI hM hi hL) ?_
  refine yp_COK_if (yp_lc_8 hR hI hM hi hL) ?_
  refine yp_COK_if (yp_lc_9 hR hI hM hi hL) ?_
  refine yp_COK_if (yp_lc_10 hR hI hM hi hL) ?_
  refine yp_COK_if (yp_lc_11 hR hI hM hi hL) ?_
  refine yp_COK_if (yp_lc_12 hR hI hM hi hL) ?_
  refine yp_COK_if (yp_lc_13 hR hI hM hi hL) ?_
  refine yp_COK_if (yp_lc_14 hR hI hM hi hL) ?_
  refine yp_COK_if (yp_lc_15 hR hI hM hi hL) ?_
  refine yp_COK_if (yp_lc_16 hR hI hM hi hL) ?_
  refine yp_COK_if (yp_lc_17 hR hI hM hi hL) ?_
  refine yp_COK_if (yp_lc_18 hR hI hM hi hL) ?_
  refine yp_COK_if (yp_lc_19 hR hI hM hi hL) ?_
  refine yp_COK_if (yp_lc_20 hR hI hM hi hL) ?_
  refine yp_COK_if (yp_lc_21 hR hI hM hi hL) ?_
  refine yp_COK_if (yp_lc_22 hR hI hM hi hL) ?_
  refine yp_COK_if (yp_lc_23 hR hI hM hi hL) ?_
  refine yp_COK_if (yp_lc_24 hR hI hM hi hL) ?_
  refine yp_COK_if (yp_lc_25 hR hI hM hi hL) ?_
  refine yp_COK_if (yp_lc_26 hR hI hM hi hL) ?_
  refine yp_COK_if (yp_lc_27 hR hI hM hi hL) ?_
  refine yp_COK_if (yp_lc_28 hR hI hM hi hL) ?_
  refine yp_COK_if (yp_lc_29 hR hI hM hi hL) ?_
  refine yp_COK_if (yp_lc_30 hR hI hM hi hL) ?_
  refine yp_COK_if (yp_lc_31 hR hI hM hi hL) ?_
  refine yp_COK_if (yp_lc_32 hR hI hM hi hL) ?_
  refine yp_COK_if (yp_lc_33 hR hI hM hi hL) ?_
  refine yp_COK_if (yp_lc_34 hR hI hM hi hL) ?_
  refine yp_COK_if (yp_lc_35 hR hI hM hi hL) ?_
  refine yp_COK_if (yp_lc_36 hR hI hM hi hL) ?_
  refine yp_COK_if (yp_lc_37 hR hI hM hi hL) ?_
  refine yp_COK_if (yp_lc_38 hR hI hM hi hL) ?_
  refine yp_COK_if (yp_lc_39 hR hI hM hi hL) ?_
  refine yp_COK_if (yp_lc_40 hR hI hM hi hL) ?_
  exact ⟨mm, A, rfl, hR, hM, hI⟩
end LOOP

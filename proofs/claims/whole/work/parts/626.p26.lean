section STATE2
variable {B : Nat} {mm : Mem} {A : yp_St}
set_option maxHeartbeats 1000000 in
theorem yp_p_fault (hR : yp_RCc B mm A) (hI : yp_INV A) : ∃ v, fX11_fault (yp_SH B) B mm = some v ∧ ∀ m, yp_RMm B m A → ∃ m2, fX12_fault (yp_SH B) (B + 517) m = some (v, m2) ∧ yp_FM B m m2 := by
  have hA := yp_clsS B
  have hM := yp_mS B
  have c1 := hR.2.2.2.2.2.1.2.2
  refine ⟨yp_sX A, by simp (disch := omega) only [fX11_fault, hA, c1, Nat.reduceAdd, Nat.reduceMul, Nat.reduceSub, Nat.zero_add, Nat.add_zero, yp_LT, yp_nA, yp_nM, yp_ltF, yp_ltT, yp_leF, yp_leT, yp_eqF, eq_self, yp_eqM, lt1, yp_sbN, yp_sb2N, ↓reduceIte, ↓yp_iP11, ↓yp_iP12, ↓yp_m0P], fun m hm => ⟨yp_m0 B m, ?_, yp_FM.rf⟩⟩
  have c2 := (yp_m0R hm).2.2.2.2.2.1.2.2
  simp (disch := omega) only [fX12_fault, hM, yp_m0e, c2, Nat.reduceAdd, Nat.reduceMul, Nat.reduceSub, Nat.zero_add, Nat.add_zero, yp_LT, yp_nA, yp_nM, yp_ltF, yp_ltT, yp_leF, yp_leT, yp_eqF, eq_self, yp_eqM, lt1, yp_sbN, yp_sb2N, ↓reduceIte, ↓yp_iP11, ↓yp_iP12, ↓yp_m0P]
set_option maxHeartbeats 1000000 in
theorem yp_p_status (hR : yp_RCc B mm A) (hI : yp_INV A) (x : Int32) : ∃ v, fX11_status (yp_SH B) B x mm = some v ∧ ∀ m, yp_RMm B m A → ∃ m2, fX12_status (yp_SH B) (B + 517) x m = some (v, m2) ∧ yp_FM B m m2 := by
  have hA := yp_clsS B
  have hM := yp_mS B
  have hT := yp_refT B
  have c1 := hR.2.2.2.2.2.2.1
  rcases yp_rng x 1 (by omega) with ⟨k, hk, rfl⟩ | h | h
  · rcases yp_z01 hk with rfl | rfl
    · refine ⟨yp_sC0 A, by simp (disch := omega) only [fX11_status_j24, fX11_status, hA, c1, Nat.reduceAdd, Nat.reduceMul, Nat.reduceSub, Nat.zero_add, Nat.add_zero, yp_LT, yp_nA, yp_nM, yp_ltF, yp_ltT, yp_leF, yp_leT, yp_eqF, eq_self, yp_eqM, lt1, yp_sbN, yp_sb2N, ↓reduceIte, ↓yp_iP11, ↓yp_iP12, ↓yp_m0P], fun m hm => ⟨yp_m0 B m, ?_, yp_FM.rf⟩⟩
      have c2 := (yp_m0R hm).2.2.2.2.2.2
      simp (disch := omega) only [fX12_status_j24, fX12_status, hM, hT, yp_m0e, yp_m_wiG, c2, Nat.reduceAdd, Nat.reduceMul, Nat.reduceSub, Nat.zero_add, Nat.add_zero, yp_LT, yp_nA, yp_nM, yp_ltF, yp_ltT, yp_leF, yp_leT, yp_eqF, eq_self, yp_eqM, lt1, yp_sbN, yp_sb2N, ↓reduceIte, ↓yp_iP11, ↓yp_iP12, ↓yp_m0P]
    · refine ⟨yp_sC1 A, by simp (disch := omega) only [fX11_status_j24, fX11_status, hA, c1, Nat.reduceAdd, Nat.reduceMul, Nat.reduceSub, Nat.zero_add, Nat.add_zero, yp_LT, yp_nA, yp_nM, yp_ltF, yp_ltT, yp_leF, yp_leT, yp_eqF, eq_self, yp_eqM, lt1, yp_sbN, yp_sb2N, ↓reduceIte, ↓yp_iP11, ↓yp_iP12, ↓yp_m0P], fun m hm => ⟨yp_m0 B m, ?_, yp_FM.rf⟩⟩
      have c2 := (yp_m0R hm).2.2.2.2.2.2
      simp (disch := omega) only [fX12_status_j24, fX12_status, hM, hT, yp_m0e, yp_m_wiG, c2, Nat.reduceAdd, Nat.reduceMul, Nat.reduceSub, Nat.zero_add, Nat.add_zero, yp_LT, yp_nA, yp_nM, yp_ltF, yp_ltT, yp_leF, yp_leT, yp_eqF, eq_self, yp_eqM, lt1, yp_sbN, yp_sb2N, ↓reduceIte, ↓yp_iP11, ↓yp_iP12, ↓yp_m0P]
  · have h9 := yp_lt_ne h
    exact ⟨-yp_N 1, by simp (disch := omega) only [fX11_status_j24, fX11_status, h9, Nat.reduceAdd, Nat.reduceMul, Nat.reduceSub, Nat.zero_add, Nat.add_zero, yp_LT, yp_nA, yp_nM, yp_ltF, yp_ltT, yp_leF, yp_leT, yp_eqF, eq_self, yp_eqM, lt1, yp_sbN, yp_sb2N, ↓reduceIte, ↓yp_iP11, ↓yp_iP12, ↓yp_m0P], fun m hm => ⟨yp_m0 B m, by simp (disch := omega) only [fX12_status_j24, fX12_status, hM, yp_m0e, yp_m_wiG, h, Nat.reduceAdd, Nat.reduceMul, Nat.reduceSub, Nat.zero_add, Nat.add_zero, yp_LT, yp_nA, yp_nM, yp_ltF, yp_ltT, yp_leF, yp_leT, yp_eqF, eq_self, yp_eqM, lt1, yp_sbN, yp_sb2N, ↓reduceIte, ↓yp_iP11, ↓yp_iP12, ↓yp_m0P], yp_FM.rf⟩⟩
  · have h9 := yp_gt_ne h
    exact ⟨-yp_N 1, by simp (disch := omega) only [fX11_status_j24, fX11_status, h9, Nat.reduceAdd, Nat.reduceMul, Nat.reduceSub, Nat.zero_add, Nat.add_zero, yp_LT, yp_nA, yp_nM, yp_ltF, yp_ltT, yp_leF, yp_leT, yp_eqF, eq_self, yp_eqM, lt1, yp_sbN, yp_sb2N, ↓reduceIte, ↓yp_iP11, ↓yp_iP12, ↓yp_m0P], fun m hm => ⟨yp_m0 B m, by simp (disch := omega) only [fX12_status_j24, fX12_status, hM, yp_m0e, yp_m_wiG, h, Nat.reduceAdd, Nat.reduceMul, Nat.reduceSub, Nat.zero_add, Nat.add_zero, yp_LT, yp_nA, yp_nM, yp_ltF, yp_ltT, yp_leF, yp_leT, yp_eqF, eq_self, yp_eqM, lt1, yp_sbN, yp_sb2N, ↓reduceIte, ↓yp_iP11, ↓yp_iP12, ↓yp_m0P], yp_FM.rf⟩⟩
set_option maxHeartbeats 1000000 in
theorem yp_p_count (hR : yp_RCc B mm A) (hI : yp_INV A) (x : Int32) : ∃ v, fX11_count (yp_SH B) B x mm = some v ∧ ∀ m, yp_RMm B m A → ∃ m2, fX12_count (yp_SH B) (B + 517) x m = some (v, m2) ∧ yp_FM B m m2 := by
  have hA := yp_clsS B
  have hP := yp_clsP B
  have hM := yp_mS B
  have c1 := hR.2.2.2.1.1
  have c2 := hR.2.2.2.2.2.1.1
  have c3 := hR.2.2.1.1
  by_cases e0 : x = yp_N 0
  · subst e0
    refine ⟨yp_N (yp_sI A), by simp (disch := omega) only [fX11_count, hA, c1, Nat.reduceAdd, Nat.reduceMul, Nat.reduceSub, Nat.zero_add, Nat.add_zero, yp_LT, yp_nA, yp_nM, yp_ltF, yp_ltT, yp_leF, yp_leT, yp_eqF, eq_self, yp_eqM, lt1, yp_sbN, yp_sb2N, ↓reduceIte, ↓yp_iP11, ↓yp_iP12, ↓yp_m0P], fun m hm => ⟨yp_m0 B m, ?_, yp_FM.rf⟩⟩
    have d1 := (yp_m0R hm).2.2.2.1.1
    simp (disch := omega) only [fX12_count_j41, fX12_count, hM, yp_m0e, d1, Nat.reduceAdd, Nat.reduceMul, Nat.reduceSub, Nat.zero_add, Nat.add_zero, yp_LT, yp_nA, yp_nM, yp_ltF, yp_ltT, yp_leF, yp_leT, yp_eqF, eq_self, yp_eqM, lt1, yp_sbN, yp_sb2N, ↓reduceIte, ↓yp_iP11, ↓yp_iP12, ↓yp_m0P]
  by_cases e1 : x = yp_N 1
  · subst e1
    refine ⟨yp_N (yp_sF A), by simp (disch := omega) only [fX11_count, hA, c2, Nat.reduceAdd, Nat.reduceMul, Nat.reduceSub, Nat.zero_add, Nat.add_zero, yp_LT, yp_nA, yp_nM, yp_ltF, yp_ltT, yp_leF, yp_leT, yp_eqF, eq_self, yp_eqM, lt1, yp_sbN, yp_sb2N, ↓reduceIte, ↓yp_iP11, ↓yp_iP12, ↓yp_m0P], fun m hm => ⟨yp_m0 B m, ?_, yp_FM.rf⟩⟩
    have d1 := (yp_m0R hm).2.2.2.2.2.1.1
    simp (disch := omega) only [fX12_count_j41, fX12_count, hM, yp_m0e, d1, Nat.reduceAdd, Nat.reduceMul, Nat.reduceSub, Nat.zero_add, Nat.add_zero, yp_LT, yp_nA, yp_nM, yp_ltF, yp_ltT, yp_leF, yp_leT, yp_eqF, eq_self, yp_eqM, lt1, yp_sbN, yp_sb2N, ↓reduceIte, ↓yp_iP11, ↓yp_iP12, ↓yp_m0P]
  by_cases e2 : x = yp_N 2
  · subst e2
    refine ⟨yp_N (yp_sW A), by simp (disch := omega) only [fX11_count, hA, hP, c3, Nat.reduceAdd, Nat.reduceMul, Nat.reduceSub, Nat.zero_add, Nat.add_zero, yp_LT, yp_nA, yp_nM, yp_ltF, yp_ltT, yp_leF, yp_leT, yp_eqF, eq_self, yp_eqM, lt1, yp_sbN, yp_sb2N, ↓reduceIte, ↓yp_iP11, ↓yp_iP12, ↓yp_m0P], fun m hm => ⟨yp_m0 B m, ?_, yp_FM.rf⟩⟩
    have d1 := (yp_m0R hm).2.2.1.1
    simp (disch := omega) only [fX12_count_j41, fX12_count, hM, yp_m0e, d1, Nat.reduceAdd, Nat.reduceMul, Nat.reduceSub, Nat.zero_add, Nat.add_zero, yp_LT, yp_nA, yp_nM, yp_ltF, yp_ltT, yp_leF, yp_leT, yp_eqF, eq_self, yp_eqM, lt1, yp_sbN, yp_sb2N, ↓reduceIte, ↓yp_iP11, ↓yp_iP12, ↓yp_m0P]
  exact ⟨-yp_N 1, by simp (disch := omega) only [fX11_count, e0, e1, e2, Nat.reduceAdd, Nat.reduceMul, Nat.reduceSub, Nat.zero_add, Nat.add_zero, yp_LT, yp_nA, yp_nM, yp_ltF, yp_ltT, yp_leF, yp_leT, yp_eqF, eq_self, yp_eqM, lt1, yp_sbN, yp_sb2N, ↓reduceIte, ↓yp_iP11, ↓yp_iP12, ↓yp_m0P], fun m hm => ⟨yp_m0 B m, by simp (disch := omega) only [fX12_count_j41, fX12_count, hM, yp_m0e, e0, e1, e2, Nat.reduceAdd, Nat.reduceMul, Nat.reduceSub, Nat.zero_add, Nat.add_zero, yp_LT, yp_nA, yp_nM, yp_ltF, yp_ltT, yp_leF, yp_leT, yp_eqF, eq_self, yp_eqM, lt1, yp_sbN, yp_sb2N, ↓reduceIte, ↓yp_iP11, ↓yp_iP12, ↓yp_m0P], yp_FM.rf⟩⟩
set_option maxHeartbeats 1000000 in
theorem yp_m_keepAll (i : Nat) (hi : i < 3) (m : Mem) : ∃ m', fX12_keepsAll (yp_SH B) (B + 517) (yp_N i) (yp_N 1) m = some m' ∧ (∀ k, k < 175 → m' (B + 541) (2976 * i + k) = m (B + 532) k) ∧ (∀ k, k < 2800 → m' (B + 541) (2976 * i + 175 + k) = m (B + 534) k) ∧ m' (B + 541) (2976 * i + 2975) = m (B + 517) 31 ∧ ∀ a j, ¬ (a = B + 541 ∧ 2976 * i ≤ j ∧ j < 2976 * i + 2976) → m' a j = m a j := by
  have hM := yp_mS B
  have hT := yp_refT B
  obtain ⟨m1, g1, g2, g3⟩ := yp_c_rowcpy (mm := m) (a := B + 532) (b := B + 541) (n0 := 0) (yp_n1 := 0) (x0 := 0) (step := fun st : Int32 × Mem => fX12_keepsRow_b3 (yp_SH B) (B + 517) (yp_N (2976 * i)) (B + 532) (yp_N 175) (yp_N 1) st.1 st.2) 175 0 (2976 * i) (by omega) (by omega) (fun k m' hk hf => by
    simp (disch := omega) only [fX12_keepsRow_b3, fX12_keepsRow_j43, hM, hT, Nat.reduceAdd, Nat.reduceMul, Nat.reduceSub, Nat.zero_add, Nat.add_zero, yp_LT, yp_nA, yp_nM, yp_ltF, yp_ltT, yp_leF, yp_leT, yp_eqF, eq_self, yp_eqM, lt1, yp_sbN, yp_sb2N, ↓reduceIte, ↓yp_iP11, ↓yp_iP12, ↓yp_m0P]) (fun m' hf => by simp (disch := omega) only [fX12_keepsRow_b3, Nat.reduceAdd, Nat.reduceMul, Nat.reduceSub, Nat.zero_add, Nat.add_zero, yp_LT, yp_nA, yp_nM, yp_ltF, yp_ltT, yp_leF, yp_leT, yp_eqF, eq_self, yp_eqM, lt1, yp_sbN, yp_sb2N, ↓reduceIte, ↓yp_iP11, ↓yp_iP12, ↓yp_m0P])
  obtain ⟨m2, k1, k2, k3⟩ := yp_c_rowcpy (mm := m1) (a := B + 534) (b := B + 541) (n0 := 0) (yp_n1 := 0) (x0 := 0) (step := fun st : Int32 × Mem => fX12_keepsRow_b3 (yp_SH B) (B + 517) (yp_N (2976 * i + 175)) (B + 534) (yp_N 2800) (yp_N 1) st.1 st.2) 2800 0 (2976 * i + 175) (by omega) (by omega) (fun k m' hk hf => by
    simp (disch := omega) only [fX12_keepsRow_b3, fX12_keepsRow_j43, hM, hT, Nat.reduceAdd, Nat.reduceMul, Nat.reduceSub, Nat.zero_add, Nat.add_zero, yp_LT, yp_nA, yp_nM, yp_ltF, yp_ltT, yp_leF, yp_leT, yp_eqF, eq_self, yp_eqM, lt1, yp_sbN, yp_sb2N, ↓reduceIte, ↓yp_iP11, ↓yp_iP12, ↓yp_m0P]) (fun m' hf => by simp (disch := omega) only [fX12_keepsRow_b3, Nat.reduceAdd, Nat.reduceMul, Nat.reduceSub, Nat.zero_add, Nat.add_zero, yp_LT, yp_nA, yp_nM, yp_ltF, yp_ltT, yp_leF, yp_leT, yp_eqF, eq_self, yp_eqM, lt1, yp_sbN, yp_sb2N, ↓reduceIte, ↓yp_iP11, ↓yp_iP12, ↓yp_m0P])
  simp only [Nat.zero_add] at g2 k2
  have s1 : m2 (B + 517) 31 = m (B + 517) 31 := by rw [k3 _ _ (by omega), g3 _ _ (by omega)]
  refine ⟨up2 m2 (B + 541) (2976 * i + 175 + 2800) (m (B + 517) 31), ?_, fun k hk => ?_, fun k hk => ?_, ?_, fun a j h => ?_⟩
  · simp (disch := omega) only [fX12_keepsAll_j59, fX12_keepsAll, fX12_keepsRow, fX12_keepsRow_j49, hM, hT, g1, k1, s1, Nat.reduceAdd, Nat.reduceMul, Nat.reduceSub, Nat.zero_add, Nat.add_zero, yp_LT, yp_nA, yp_nM, yp_ltF, yp_ltT, yp_leF, yp_leT, yp_eqF, eq_self, yp_eqM, lt1, yp_sbN, yp_sb2N, ↓reduceIte, ↓yp_iP11, ↓yp_iP12, ↓yp_m0P]
  · rw [yp_up2_n _ _ (by omega), k3 _ _ (by omega), g2 k hk]
  · rw [yp_up2_n _ _ (by omega), k2 k hk, g3 _ _ (by omega)]
  · rw [show 2976 * i + 2975 = 2976 * i + 175 + 2800 by omega, yp_up2_s]
  · rw [yp_up2_n _ _ (by omega), k3 _ _ (by omega), g3 _ _ (by omega)]
set_option maxHeartbeats 1000000 in
theorem yp_m_restAll (i : Nat) (hi : i < 3) (m : Mem) : ∃ m', fX12_keepsAll (yp_SH B) (B + 517) (yp_N i) (yp_N 0) m = some m' ∧ (∀ k, k < 175 → m' (B + 532) k = m (B + 541) (2976 * i + k)) ∧ (∀ k, k < 2800 → m' (B + 534) k = m (B + 541) (2976 * i + 175 + k)) ∧ m' (B + 517) 31 = m (B + 541) (2976 * i + 2975) ∧ ∀ a j, a ≠ B + 532 → a ≠ B + 534 → ¬ (a = B + 517 ∧ j = 31) → m' a j = m a j := by
  have hM := yp_mS B
  have hT := yp_refT B
  obtain ⟨m1, g1, g2, g3⟩ := yp_c_rowcpy (mm := m) (a := B + 541) (b := B + 532) (n0 := 0) (yp_n1 := 0) (x0 := 0) (step := fun st : Int32 × Mem => fX12_keepsRow_b3 (yp_SH B) (B + 517) (yp_N (2976 * i)) (B + 532) (yp_N 175) (yp_N 0) st.1 st.2) 175 (2976 * i) 0 (by omega) (by omega) (fun k m' hk hf => by
    simp (disch := omega) only [fX12_keepsRow_b3, fX12_keepsRow_j43, hM, hT, Nat.reduceAdd, Nat.reduceMul, Nat.reduceSub, Nat.zero_add, Nat.add_zero, yp_LT, yp_nA, yp_nM, yp_ltF, yp_ltT, yp_leF, yp_leT, yp_eqF, eq_self, yp_eqM, lt1, yp_sbN, yp_sb2N, ↓reduceIte, ↓yp_iP11, ↓yp_iP12, ↓yp_m0P]) (fun m' hf => by simp (disch := omega) only [fX12_keepsRow_b3, Nat.reduceAdd, Nat.reduceMul, Nat.reduceSub, Nat.zero_add, Nat.add_zero, yp_LT, yp_nA, yp_nM, yp_ltF, yp_ltT, yp_leF, yp_leT, yp_eqF, eq_self, yp_eqM, lt1, yp_sbN, yp_sb2N, ↓reduceIte, ↓yp_iP11, ↓yp_iP12, ↓yp_m0P])
  obtain ⟨m2, k1, k2, k3⟩ := yp_c_rowcpy (mm := m1) (a := B + 541) (b := B + 534) (n0 := 0) (yp_n1 := 0) (x0 := 0) (step := fun st : Int32 × Mem => fX12_keepsRow_b3 (yp_SH B) (B + 517) (yp_N (2976 * i + 175)) (B + 534) (yp_N 2800) (yp_N 0) st.1 st.2) 2800 (2976 * i + 175) 0 (by omega) (by omega) (fun k m' hk hf => by
    simp (disch := omega) only [fX12_keepsRow_b3, fX12_keepsRow_j43, hM, hT, Nat.reduceAdd, Nat.reduceMul, Nat.reduceSub, Nat.zero_add, Nat.add_zero, yp_LT, yp_nA, yp_nM, yp_ltF, yp_ltT, yp_leF, yp_leT, yp_eqF, eq_self, yp_eqM, lt1, yp_sbN, yp_sb2N, ↓reduceIte, ↓yp_iP11, ↓yp_iP12, ↓yp_m0P]) (fun m' hf => by simp (disch := omega) only [fX12_keepsRow_b3, Nat.reduceAdd, Nat.reduceMul, Nat.reduceSub, Nat.zero_add, Nat.add_zero, yp_LT, yp_nA, yp_nM, yp_ltF, yp_ltT, yp_leF, yp_leT, yp_eqF, eq_self, yp_eqM, lt1, yp_sbN, yp_sb2N, ↓reduceIte, ↓yp_iP11, ↓yp_iP12, ↓yp_m0P])
  simp only [Nat.zero_add] at g2 k2
  have s1 : m2 (B + 541) (2976 * i + 175 + 2800) = m (B + 541) (2976 * i + 2975) := by
    rw [k3 _ _ (by omega), g3 _ _ (by omega), show 2976 * i + 175 + 2800 = 2976 * i + 2975 by omega]
  refine ⟨up2 m2 (B + 517) 31 (m (B + 541) (2976 * i + 2975)), ?_, fun k hk => ?_, fun k hk => ?_, ?_, fun a j h1 h2 h3 => ?_⟩
  · simp (disch := omega) only [fX12_keepsAll_j59, fX12_keepsAll, fX12_keepsRow, fX12_keepsRow_j49, hM, hT, g1, k1, s1, Nat.reduceAdd, Nat.reduceMul, Nat.reduceSub, Nat.zero_add, Nat.add_zero, yp_LT, yp_nA, yp_nM, yp_ltF, yp_ltT, yp_leF, yp_leT, yp_eqF, eq_self, yp_eqM, lt1, yp_sbN, yp_sb2N, ↓reduceIte, ↓yp_iP11, ↓yp_iP12, ↓yp_m0P]
  · rw [yp_up2_n _ _ (by omega), k3 _ _ (by omega), g2 k hk]
  · rw [yp_up2_n _ _ (by omega), k2 k hk, g3 _ _ (by omega)]
  · rw [yp_up2_s]
  · rw [yp_up2_n _ _ (by omega), k3 _ _ (by omega), g3 _ _ (by omega)]
def yp_imageA (A : yp_St) : yp_St := (yp_sQ A, yp_sH A, A.2.2.1, (yp_sI A + 1, fun i => if i = yp_sI A then (yp_sH A, yp_sW A, yp_sP A) else yp_sJ A i), A.2.2.2.2.1, A.2.2.2.2.2.1, yp_sX A, yp_sR A, yp_sC0 A, yp_sC1 A)
set_option maxHeartbeats 1000000 in
theorem yp_imJ1 (A : yp_St) : yp_sJ (yp_imageA A) (yp_sI A) = (yp_sH A, yp_sW A, yp_sP A) := if_pos rfl
set_option maxHeartbeats 1000000 in
theorem yp_imJ0 (A : yp_St) {i : Nat} (h : i ≠ yp_sI A) : yp_sJ (yp_imageA A) i = yp_sJ A i := if_neg h
set_option maxHeartbeats 1000000 in
theorem yp_pcS (hR : yp_RCc B mm A) : yp_PC mm (B + 39) (yp_sW A) (yp_sP A) := ⟨hR.2.2.1.1, fun j hj => by
  rw [show B + 39 + 2 + 6 * j = B + (41 + 6 * j) by omega]
  exact hR.2.2.1.2 j hj⟩
set_option maxHeartbeats 1000000 in
theorem yp_p_image (hR : yp_RCc B mm A) (hI : yp_INV A) : yp_PV B (fX11_image (yp_SH B) B mm) (fun m => fX12_image (yp_SH B) (B + 517) m) mm A := by
  have hA := yp_clsS B
  have hM := yp_mS B
  have hi := hI.2.2.2.1.1
  have hw := hI.2.2.1.1
  have c1 := hR.2.2.2.1.1
  by_cases h3 : yp_sI A = 3
  · rw [h3] at c1
    refine yp_PV_no hR hI (v := -yp_N 1) (by simp (disch := omega) only [fX11_image, hA, c1, Nat.reduceAdd, Nat.reduceMul, Nat.reduceSub, Nat.zero_add, Nat.add_zero, yp_LT, yp_nA, yp_nM, yp_ltF, yp_ltT, yp_leF, yp_leT, yp_eqF, eq_self, yp_eqM, lt1, yp_sbN, yp_sb2N, ↓reduceIte, ↓yp_iP11, ↓yp_iP12, ↓yp_m0P]) (fun m hm => ?_)
    have c2 := (yp_m0R hm).2.2.2.1.1
    rw [h3] at c2
    simp (disch := omega) only [fX12_image, hM, yp_m0e, c2, Nat.reduceAdd, Nat.reduceMul, Nat.reduceSub, Nat.zero_add, Nat.add_zero, yp_LT, yp_nA, yp_nM, yp_ltF, yp_ltT, yp_leF, yp_leT, yp_eqF, eq_self, yp_eqM, lt1, yp_sbN, yp_sb2N, ↓reduceIte, ↓yp_iP11, ↓yp_iP12, ↓yp_m0P]
  have hi3 : yp_sI A < 3 := by omega
  obtain ⟨m8, e1, e2, e3⟩ := yp_h_copy (yp_hsI B (yp_sI A) hi3) (yp_hs33 B) hR.2.1 (by omega)
  have hpc : yp_PC m8 (B + 39) (yp_sW A) (yp_sP A) := (yp_pcS hR).same hw (fun a j q1 q2 => e3 a j (by unfold yp_IH; omega))
  obtain ⟨m14, k1, k2, k3⟩ := yp_c_pcopy (yp_psI B (yp_sI A) hi3) (yp_psS B) hpc hw (by omega)
  have s8 : m8 B 12 = yp_N (yp_sI A) := (e3 _ _ (by unfold yp_IH; omega)).trans c1
  have s14 : m14 B 12 = yp_N (yp_sI A) := (k3 _ _ (by omega)).trans s8
  have f16 : ∀ a j, ¬ (a = B ∧ j = 12) → ¬ (B + (139 + 105 * yp_sI A) ≤ a ∧ a ≤ B + (242 + 105 * yp_sI A)) → up2 m14 B 12 (yp_N (yp_sI A + 1)) a j = mm a j := fun a j q1 q2 => by
    rw [yp_up2_n _ _ (by omega), k3 a j (by omega), e3 a j (by unfold yp_IH; omega)]
  have o2 := (yp_HSx (yp_hsI B (yp_sI A) hi3)).1.2.1
  have o7 := (yp_psI B (yp_sI A) hi3).2.1
  refine ⟨yp_N (yp_sI A + 1), yp_imageA A, up2 m14 B 12 (yp_N (yp_sI A + 1)), ?_, ?_, ?_, fun a j h => f16 a j (by omega) (by omega), fun m hm => ?_⟩
  · obtain ⟨i1, i2, ⟨i3, i4⟩, ⟨i5, i6⟩, i7⟩ := hI
    refine ⟨i1, i2, ⟨i3, i4⟩, ⟨by show yp_sI A + 1 ≤ 3; omega, fun i hi => ?_⟩, i7⟩
    have hi : i < yp_sI A + 1 := hi
    by_cases e : i = yp_sI A
    · rw [e, yp_imJ1]
      exact ⟨i2, i3, i4⟩
    · rw [yp_imJ0 A e]
      exact i6 i (by omega)
  · simp (disch := omega) only [fX11_image, hA, c1, yp_ar137 B (yp_sI A) hi3, yp_im3 B (yp_sI A) hi3, o2, o7, e1, s8, k1, s14, yp_up2_s, Nat.reduceAdd, Nat.reduceMul, Nat.reduceSub, Nat.zero_add, Nat.add_zero, yp_LT, yp_nA, yp_nM, yp_ltF, yp_ltT, yp_leF, yp_leT, yp_eqF, eq_self, yp_eqM, lt1, yp_sbN, yp_sb2N, ↓reduceIte, ↓yp_iP11, ↓yp_iP12, ↓yp_m0P]
  · obtain ⟨h1, h2, ⟨h3, h4⟩, ⟨h5, h6⟩, ⟨h7, h8, h9⟩, ⟨h10, h11, h12⟩, ⟨h13, h14, h15⟩, h16⟩ := hR
    have iI := hI.2.2.2.1
    refine ⟨h1.fr (fun a j h => f16 a j (by omega) (by omega)), h2.same (fun a j q1 q2 => f16 a j (by omega) (by omega)), ⟨(f16 _ _ (by omega) (by omega)).trans h3, fun i hi => by
      have hi : i < yp_sW A := hi
      exact (h4 i hi).same (fun a j q1 q2 => f16 a j (by omega) (by omega))⟩, ⟨yp_up2_s _ _ _ _, fun i hi => ?_⟩, ⟨(f16 _ _ (by omega) (by omega)).trans h7, fun i hi => (f16 _ _ (by omega) (by omega)).trans (h8 i hi), fun i hi => (f16 _ _ (by omega) (by omega)).trans (h9 i hi)⟩, ⟨(f16 _ _ (by omega) (by omega)).trans h10, fun k hk => (f16 _ _ (by omega) (by omega)).trans (h11 k hk), (f16 _ _ (by omega) (by omega)).trans h12⟩, ⟨(f16 _ _ (by omega) (by omega)).trans h13, (f16 _ _ (by omega) (by omega)).trans h14, (f16 _ _ (by omega) (by omega)).trans h15⟩, fun k hk => (f16 _ _ (by omega) (by omega)).trans (h16 k hk)⟩
    have hi : i < yp_sI A + 1 := hi
    by_cases e : i = yp_sI A
    · rw [e, yp_imJ1]
      refine ⟨e2.same (fun a j q1 q2 => ?_), ?_, fun j hj => ?_⟩
      · rw [yp_up2_n _ _ (by omega), k3 a j (by omega)]
      · rw [yp_up2_n _ _ (by omega)]; exact k2.1
      · have := k2.2 j hj
        rw [show B + (145 + 105 * yp_sI A) + 2 + 6 * j = B + (147 + 105 * yp_sI A + 6 * j) by omega] at this
        have hj : j < yp_sW A := hj
        exact this.same (fun a q q1 q2 => yp_up2_n _ _ (by omega))
    · rw [yp_imJ0 A e]
      have := (iI.2 i (by omega)).2.1
      have h6i := h6 i (by omega)
      exact ⟨h6i.1.same (fun a j q1 q2 => f16 a j (by omega) (by omega)), (f16 _ _ (by omega) (by omega)).trans h6i.2.1, fun j hj => (h6i.2.2 j hj).same (fun a q q1 q2 => f16 a q (by omega) (by omega))⟩
  · have hm0 := yp_m0R hm
    have c2 := hm0.2.2.2.1.1
    obtain ⟨m5, g1, g2, g3, g4, g5⟩ := yp_m_keepAll (B := B) (yp_sI A) hi3 (yp_m0 B m)
    have s5 : m5 (B + 517) 49 = yp_N (yp_sI A) := (g5 _ _ (by omega)).trans c2
    have f7 : ∀ a j, ¬ (a = B + 517 ∧ j = 49) → ¬ (a = B + 541 ∧ 2976 * yp_sI A ≤ j ∧ j < 2976 * yp_sI A + 2976) → up2 m5 (B + 517) 49 (yp_N (yp_sI A + 1)) a j = yp_m0 B m a j := fun a j q1 q2 => by
      rw [yp_up2_n _ _ (by omega), g5 a j q2]
    refine ⟨up2 m5 (B + 517) 49 (yp_N (yp_sI A + 1)), ?_, ?_, fun a j h => ?_⟩
    · simp (disch := omega) only [fX12_image, hM, yp_m0e, c2, g1, s5, yp_up2_s, Nat.reduceAdd, Nat.reduceMul, Nat.reduceSub, Nat.zero_add, Nat.add_zero, yp_LT, yp_nA, yp_nM, yp_ltF, yp_ltT, yp_leF, yp_leT, yp_eqF, eq_self, yp_eqM, lt1, yp_sbN, yp_sb2N, ↓reduceIte, ↓yp_iP11, ↓yp_iP12, ↓yp_m0P]
    · obtain ⟨h1, h2, ⟨h3, h4⟩, ⟨h5, h6⟩, ⟨h7, h8, h9⟩, ⟨h10, h11, h12⟩, ⟨h13, h14, h15⟩⟩ := hm0
      refine ⟨h1.fr (fun a j h => f7 a j (by omega) (by omega)), h2.same (fun j => f7 _ j (by omega) (by omega)), ⟨(f7 _ _ (by omega) (by omega)).trans h3, fun i hi k hk => (f7 _ _ (by omega) (by omega)).trans (h4 i hi k hk)⟩, ⟨yp_up2_s _ _ _ _, fun i hi => ?_⟩, ⟨(f7 _ _ (by omega) (by omega)).trans h7, fun i hi => (f7 _ _ (by omega) (by omega)).trans (h8 i hi), fun i hi => (f7 _ _ (by omega) (by omega)).trans (h9 i hi)⟩, ⟨(f7 _ _ (by omega) (by omega)).trans h10, fun k hk => (f7 _ _ (by omega) (by omega)).trans (h11 k hk), (f7 _ _ (by omega) (by omega)).trans h12⟩, ⟨(f7 _ _ (by omega) (by omega)).trans h13, (f7 _ _ (by omega) (by omega)).trans h14, (f7 _ _ (by omega) (by omega)).trans h15⟩⟩
      have hi : i < yp_sI A + 1 := hi
      by_cases e : i = yp_sI A
      · rw [e, yp_imJ1]
        refine ⟨fun k hk => ?_, ?_, fun j hj k hk => ?_⟩
        · rw [yp_up2_n _ _ (by omega), g2 k hk]
          exact h2 k hk
        · rw [yp_up2_n _ _ (by omega), g4]
          exact h3
        · have hj : j < yp_sW A := hj
          rw [yp_up2_n _ _ (by omega), g3 _ (by omega)]
          exact h4 j hj k hk
      · rw [yp_imJ0 A e]
        have h6i := h6 i (by omega)
        have := (hI.2.2.2.1.2 i (by omega)).2.1
        exact ⟨fun k hk => (f7 _ _ (by omega) (by omega)).trans (h6i.1 k hk), (f7 _ _ (by omega) (by omega)).trans h6i.2.1, fun j hj k hk => (f7 _ _ (by omega) (by omega)).trans (h6i.2.2 j hj k hk)⟩
    · rw [f7 a j (by omega) (by omega), yp_m0n (by omega)]
def yp_restA (A : yp_St) : yp_St := (yp_sQ A, (yp_sJ A (yp_sI A - 1)).1, (yp_sJ A (yp_sI A - 1)).2, (yp_sI A - 1, yp_sJ A), A.2.2.2.2.1, A.2.2.2.2.2.1, yp_sX A, yp_N 0, yp_sC0 A, yp_sC1 A)
set_option maxHeartbeats 1000000 in
theorem yp_p_restore (hR : yp_RCc B mm A) (hI : yp_INV A) : yp_PV B (fX11_restore (yp_SH B) B mm) (fun m => fX12_restore (yp_SH B) (B + 517) m) mm A := by
  have hA := yp_clsS B
  have hM := yp_mS B
  have hi := hI.2.2.2.1.1
  have c1 := hR.2.2.2.1.1
  by_cases h3 : yp_sI A = 0
  · rw [h3] at c1
    refine yp_PV_no hR hI (v := -yp_N 1) (by simp (disch := omega) only [fX11_restore, hA, c1, Nat.reduceAdd, Nat.reduceMul, Nat.reduceSub, Nat.zero_add, Nat.add_zero, yp_LT, yp_nA, yp_nM, yp_ltF, yp_ltT, yp_leF, yp_leT, yp_eqF, eq_self, yp_eqM, lt1, yp_sbN, yp_sb2N, ↓reduceIte, ↓yp_iP11, ↓yp_iP12, ↓yp_m0P]) (fun m hm => ?_)
    have c2 := (yp_m0R hm).2.2.2.1.1
    rw [h3] at c2
    simp (disch := omega) only [fX12_restore, hM, yp_m0e, c2, Nat.reduceAdd, Nat.reduceMul, Nat.reduceSub, Nat.zero_add, Nat.add_zero, yp_LT, yp_nA, yp_nM, yp_ltF, yp_ltT, yp_leF, yp_leT, yp_eqF, eq_self, yp_eqM, lt1, yp_sbN, yp_sb2N, ↓reduceIte, ↓yp_iP11, ↓yp_iP12, ↓yp_m0P]
  obtain ⟨k, hk⟩ : ∃ k, yp_sI A = k + 1 := ⟨yp_sI A - 1, by omega⟩
  rw [hk] at c1
  have hJ := hI.2.2.2.1.2 k (by omega)
  have eA : yp_restA A = (yp_sQ A, (yp_sJ A k).1, (yp_sJ A k).2, (k, yp_sJ A), A.2.2.2.2.1, A.2.2.2.2.2.1, yp_sX A, yp_N 0, yp_sC0 A, yp_sC1 A) := by
    unfold yp_restA
    rw [hk]
    rfl
  have hk3 : k < 3 := by omega
  obtain ⟨m4, hm4⟩ : ∃ m, m = up2 mm B 12 (yp_N k) := ⟨_, rfl⟩
  have f4 : ∀ a j, ¬ (a = B ∧ j = 12) → m4 a j = mm a j := fun a j h => by rw [hm4, yp_up2_n _ _ (by omega)]
  have s4 : m4 B 12 = yp_N k := by rw [hm4, yp_up2_s]
  have hIm := hR.2.2.2.1.2 k (by omega)
  have hH : yp_HC m4 (B + (139 + 105 * k)) (yp_sJ A k).1 := hIm.1.same (fun a j q1 q2 => f4 a j (by omega))
  obtain ⟨m10, e1, e2, e3⟩ := yp_h_copy (yp_hs33 B) (yp_hsI B k hk3) hH (by omega)
  have hpc : yp_PC m10 (B + (145 + 105 * k)) (yp_sJ A k).2.1 (yp_sJ A k).2.2 := by
    refine ⟨?_, fun j hj => ?_⟩
    · rw [e3 _ _ (by unfold yp_IH; omega), f4 _ _ (by omega)]; exact hIm.2.1
    · rw [show B + (145 + 105 * k) + 2 + 6 * j = B + (147 + 105 * k + 6 * j) by omega]
      exact (hIm.2.2 j hj).same (fun a q q1 q2 => by rw [e3 a q (by unfold yp_IH; omega), f4 a q (by omega)])
  obtain ⟨m16, k1, k2, k3⟩ := yp_c_pcopy (yp_psS B) (yp_psI B k hk3) hpc hJ.2.1 (by omega)
  have s10 : m10 B 12 = yp_N k := (e3 _ _ (by unfold yp_IH; omega)).trans s4
  have f17 : ∀ a j, ¬ (a = B ∧ (j = 12 ∨ j = 13)) → ¬ (B + 33 ≤ a ∧ a ≤ B + 136) → up2 m16 B 13 (yp_N 0) a j = mm a j := fun a j q1 q2 => by
    rw [yp_up2_n _ _ (by omega), k3 a j (by omega), e3 a j (by unfold yp_IH; omega), f4 a j (by omega)]
  have s17 : up2 m16 B 13 (yp_N 0) B 12 = yp_N k := by rw [yp_up2_n _ _ (by omega), k3 _ _ (by omega), s10]
  have o7 := (yp_psS B).2.1
  refine ⟨yp_N k, yp_restA A, up2 m16 B 13 (yp_N 0), ?_, ?_, ?_, fun a j h => f17 a j (by omega) (by omega), fun m hm => ?_⟩
  · rw [eA]
    obtain ⟨i1, i2, ⟨i3, i4⟩, ⟨i5, i6⟩, i7⟩ := hI
    exact ⟨i1, hJ.1, ⟨hJ.2.1, hJ.2.2⟩, ⟨by show k ≤ 3; omega, fun i hi => i6 i (by have : i < k := hi; omega)⟩, i7⟩
  · simp (disch := omega) only [fX11_restore, hA, c1, yp_nS, Nat.add_sub_cancel, ← hm4, s4, yp_ar137 B k hk3, yp_im3 B k hk3, e1, s10, o7, k1, s17, Nat.reduceAdd, Nat.reduceMul, Nat.reduceSub, Nat.zero_add, Nat.add_zero, yp_LT, yp_nA, yp_nM, yp_ltF, yp_ltT, yp_leF, yp_leT, yp_eqF, eq_self, yp_eqM, lt1, yp_sbN, yp_sb2N, ↓reduceIte, ↓yp_iP11, ↓yp_iP12, ↓yp_m0P]
  · rw [eA]
    obtain ⟨h1, h2, ⟨h3, h4⟩, ⟨h5, h6⟩, ⟨h7, h8, h9⟩, ⟨h10, h11, h12⟩, ⟨h13, h14, h15⟩, h16⟩ := hR
    refine ⟨h1.fr (fun a j h => f17 a j (by omega) (by omega)), e2.same (fun a j q1 q2 => ?_), ⟨?_, fun i hi => ?_⟩, ⟨s17, fun i hi => ?_⟩, ⟨(f17 _ _ (by omega) (by omega)).trans h7, fun i hi => (f17 _ _ (by omega) (by omega)).trans (h8 i hi), fun i hi => (f17 _ _ (by omega) (by omega)).trans (h9 i hi)⟩, ⟨(f17 _ _ (by omega) (by omega)).trans h10, fun k hk => (f17 _ _ (by omega) (by omega)).trans (h11 k hk), (f17 _ _ (by omega) (by omega)).trans h12⟩, ⟨yp_up2_s _ _ _ _, (f17 _ _ (by omega) (by omega)).trans h14, (f17 _ _ (by omega) (by omega)).trans h15⟩, fun k hk => (f17 _ _ (by omega) (by omega)).trans (h16 k hk)⟩
    · rw [yp_up2_n _ _ (by omega), k3 a j (by omega)]
    · rw [yp_up2_n _ _ (by omega)]; exact k2.1
    · have := k2.2 i hi
      rw [show B + 39 + 2 + 6 * i = B + (41 + 6 * i) by omega] at this
      exact this.same (fun a q q1 q2 => yp_up2_n _ _ (by omega))
    · have hi : i < k := hi
      have h6i := h6 i (by omega)
      have := (hI.2.2.2.1.2 i (by omega)).2.1
      exact ⟨h6i.1.same (fun a j q1 q2 => f17 a j (by omega) (by omega)), (f17 _ _ (by omega) (by omega)).trans h6i.2.1, fun j hj => (h6i.2.2 j hj).same (fun a q q1 q2 => f17 a q (by omega) (by omega))⟩
  · have hm0 := yp_m0R hm
    have c2 := hm0.2.2.2.1.1
    rw [hk] at c2
    obtain ⟨m5, hm5⟩ : ∃ m', m' = up2 (yp_m0 B m) (B + 517) 49 (yp_N k) := ⟨_, rfl⟩
    have f5 : ∀ a j, ¬ (a = B + 517 ∧ j = 49) → m5 a j = yp_m0 B m a j := fun a j h => by rw [hm5, yp_up2_n _ _ (by omega)]
    have s5 : m5 (B + 517) 49 = yp_N k := by rw [hm5, yp_up2_s]
    obtain ⟨m7, g1, g2, g3, g4, g5⟩ := yp_m_restAll (B := B) k hk3 m5
    have f8 : ∀ a j, ¬ (a = B + 517 ∧ (j = 49 ∨ j = 31 ∨ j = 32)) → a ≠ B + 532 → a ≠ B + 534 → up2 m7 (B + 517) 32 (yp_N 0) a j = yp_m0 B m a j := fun a j q1 q2 q3 => by
      rw [yp_up2_n _ _ (by omega), g5 a j q2 q3 (by omega), f5 a j (by omega)]
    have s8 : up2 m7 (B + 517) 32 (yp_N 0) (B + 517) 49 = yp_N k := by rw [yp_up2_n _ _ (by omega), g5 _ _ (by omega) (by omega) (by omega), s5]
    refine ⟨up2 m7 (B + 517) 32 (yp_N 0), ?_, ?_, fun a j h => ?_⟩
    · simp (disch := omega) only [fX12_restore, hM, yp_m0e, c2, yp_nS, Nat.add_sub_cancel, ← hm5, s5, g1, s8, Nat.reduceAdd, Nat.reduceMul, Nat.reduceSub, Nat.zero_add, Nat.add_zero, yp_LT, yp_nA, yp_nM, yp_ltF, yp_ltT, yp_leF, yp_leT, yp_eqF, eq_self, yp_eqM, lt1, yp_sbN, yp_sb2N, ↓reduceIte, ↓yp_iP11, ↓yp_iP12, ↓yp_m0P]
    · rw [eA]
      obtain ⟨h1, h2, ⟨h3, h4⟩, ⟨h5, h6⟩, ⟨h7, h8, h9⟩, ⟨h10, h11, h12⟩, ⟨h13, h14, h15⟩⟩ := hm0
      have h6k := h6 k (by omega)
      refine ⟨h1.fr (fun a j h => f8 a j (by omega) (by omega) (by omega)), fun q hq => ?_, ⟨?_, fun i hi q hq => ?_⟩, ⟨s8, fun i hi => ?_⟩, ⟨(f8 _ _ (by omega) (by omega) (by omega)).trans h7, fun i hi => (f8 _ _ (by omega) (by omega) (by omega)).trans (h8 i hi), fun i hi => (f8 _ _ (by omega) (by omega) (by omega)).trans (h9 i hi)⟩, ⟨(f8 _ _ (by omega) (by omega) (by omega)).trans h10, fun k hk => (f8 _ _ (by omega) (by omega) (by omega)).trans (h11 k hk), (f8 _ _ (by omega) (by omega) (by omega)).trans h12⟩, ⟨yp_up2_s _ _ _ _, (f8 _ _ (by omega) (by omega) (by omega)).trans h14, (f8 _ _ (by omega) (by omega) (by omega)).trans h15⟩⟩
      · rw [yp_up2_n _ _ (by omega), g2 q hq, f5 _ _ (by omega)]
        exact h6k.1 q hq
      · rw [yp_up2_n _ _ (by omega), g4, f5 _ _ (by omega)]
        exact h6k.2.1
      · have hi : i < (yp_sJ A k).2.1 := hi
        have := hJ.2.1
        rw [yp_up2_n _ _ (by omega), g3 _ (by omega), f5 _ _ (by omega)]
        exact h6k.2.2 i hi q hq
      · have hi : i < k := hi
        have h6i := h6 i (by omega)
        exact ⟨fun q hq => (f8 _ _ (by omega) (by omega) (by omega)).trans (h6i.1 q hq), (f8 _ _ (by omega) (by omega) (by omega)).trans h6i.2.1, fun j hj q hq => (f8 _ _ (by omega) (by omega) (by omega)).trans (h6i.2.2 j hj q hq)⟩
    · rw [f8 a j (by omega) (by omega) (by omega), yp_m0n (by omega)]
end STATE2

section RUN
variable {B : Nat} {mm : Mem} {A : yp_St} {L i : Nat} {xs : Nat → Int32}
set_option maxHeartbeats 1000000 in
theorem yp_L9 (hL : L ≤ 4608) (hi : i ≤ 5000) : (Int32.ofNat L - 9 < yp_N i) ↔ L < i + 9 := by
  show (yp_N L - yp_N 9 < yp_N i) ↔ _
  by_cases h : 9 ≤ L
  · rw [yp_nS h, yp_ltN (by omega) (by omega)]; omega
  · have e : (yp_N L - yp_N 9).toInt < 0 := by
      have : L = 0 ∨ L = 1 ∨ L = 2 ∨ L = 3 ∨ L = 4 ∨ L = 5 ∨ L = 6 ∨ L = 7 ∨ L = 8 := by omega
      rcases this with rfl | rfl | rfl | rfl | rfl | rfl | rfl | rfl | rfl <;> decide
    rw [Int32.lt_iff_toInt_lt, yp_tiN (by omega)]
    omega
set_option maxHeartbeats 1000000 in
theorem yp_st_in (hR : yp_RCc B mm A) (hI : yp_INV A) (hM : yp_RMm B mm A) (hi : i + 9 ≤ L) (hL : L ≤ 4608) : ∃ m' A', fL_step (yp_SH B) L xs B (B + 517) (B + 542) (yp_N i, mm) = some (.inl (yp_N (i + 9), m')) ∧ yp_RCc B m' A' ∧ yp_RMm B m' A' ∧ yp_INV A' := by
  obtain ⟨m', A', e, r⟩ := yp_lc_all (xs := xs) hR hI hM hi hL (xs i &&& 63)
  refine ⟨m', A', ?_, r⟩
  unfold fL_step
  rw [if_neg (fun h => by have := (yp_L9 hL (by omega)).mp h; omega), yp_opP (yp_scN (by omega) hL)]
  show (fL_cases (yp_SH B) L xs B (B + 517) (B + 542) (yp_N i) mm (xs i &&& 63)).bind _ = _
  rw [yp_opP e]
  show some (Sum.inl (yp_N i + yp_N 9, m')) = _
  rw [yp_nA]
set_option maxHeartbeats 1000000 in
theorem yp_st_out (hL : L ≤ 4608) (hi : i ≤ 5000) (h : L < i + 9) : fL_step (yp_SH B) L xs B (B + 517) (B + 542) (yp_N i, mm) = some (.inr 1) := by
  unfold fL_step
  exact if_pos ((yp_L9 hL hi).mpr h)
set_option maxHeartbeats 1000000 in
theorem yp_law_runs (hR : yp_RCc B mm A) (hI : yp_INV A) (hM : yp_RMm B mm A) (hL : L ≤ 4608) : loopN (fL_step (yp_SH B) L xs B (B + 517) (B + 542)) 8000 (0, mm) = some 1 := by
  obtain ⟨y, h1, h2⟩ := yp_lpP (ps := fL_step (yp_SH B) L xs B (B + 517) (B + 542)) (fun st => ∃ i m A, st = (yp_N i, m) ∧ i ≤ 5000 ∧ yp_RCc B m A ∧ yp_RMm B m A ∧ yp_INV A) (fun y => y = 1) (fun st => (6000 - st.1.toInt).toNat) (fun st h => by
    obtain ⟨i, m, A, rfl, hi, r1, r2, r3⟩ := h
    by_cases h : L < i + 9
    · exact .inr ⟨1, yp_st_out hL hi h, rfl⟩
    · obtain ⟨m', A', e, r4, r5, r6⟩ := yp_st_in (xs := xs) r1 r3 r2 (show i + 9 ≤ L by omega) hL
      refine .inl ⟨_, e, ⟨i + 9, m', A', rfl, by omega, r4, r5, r6⟩, ?_⟩
      show (6000 - (yp_N (i + 9)).toInt).toNat < (6000 - (yp_N i).toInt).toNat
      rw [yp_tiN (by omega), yp_tiN (by omega)]
      omega) 8000 (0, mm) (by show (6000 - (yp_N 0).toInt).toNat < 8000; rw [yp_tiN (by omega)]; omega) ⟨0, mm, A, rfl, by omega, hR, hM, hI⟩
  rw [h1, h2]
end RUN

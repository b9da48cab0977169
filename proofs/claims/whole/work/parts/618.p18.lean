section ASK2
variable {B : Nat} {mm : Mem} {A : yp_St}
set_option maxHeartbeats 1000000 in
theorem yp_rngG (x : Int32) (a n : Nat) (ha : a ≤ n) (hn : n < 2147483647) : (∃ k, a ≤ k ∧ k ≤ n ∧ x = yp_N k) ∨ (x < yp_N a) ∨ (¬ x < yp_N a ∧ yp_N n < x ∧ yp_N (n + 1) ≤ x) := by
  by_cases h : x < yp_N a
  · exact .inr (.inl h)
  · have h2 : (a : Int) ≤ x.toInt := by
      rw [yp_ltTi, yp_tiN (by omega)] at h; omega
    obtain ⟨k, rfl, h3, h4⟩ := yp_ofN (x := x) (by omega)
    by_cases h5 : k ≤ n
    · exact .inl ⟨k, by omega, h5, rfl⟩
    · refine .inr (.inr ⟨h, ?_, ?_⟩)
      · rw [yp_ltN (by omega) h4]; omega
      · rw [yp_leN (by omega) h4]; omega
def yp_wF (a0 a1 a2 a3 a4 a5 a6 a7 : Int32) : Nat → Int32 := fun j => if j = 0 then a0 else if j = 1 then a1 else if j = 2 then a2 else if j = 3 then a3 else if j = 4 then a4 else if j = 5 then a5 else if j = 6 then a6 else a7
set_option maxHeartbeats 1000000 in
theorem yp_p_would (hR : yp_RCc B mm A) (hI : yp_INV A) (x1 x2 x3 x4 x5 x6 x7 x8 : Int32) : yp_PM B (fX11_would (yp_SH B) B x1 x2 x3 x4 x5 x6 x7 x8 mm) (fun m => fX12_would (yp_SH B) (B + 517) x1 x2 x3 x4 x5 x6 x7 x8 m) hcI mm A := by
  have hA := yp_clsS B
  have hO := yp_optS B
  have hM := yp_mS B
  have hM2 := yp_refS B
  have hn := @yp_nd1 B mm
  have h0 := @yp_nd0 B mm A hR
  rcases yp_partR x1 with ⟨c, hcc, rfl, q1, q2⟩ | ⟨q1, q2⟩
  rotate_left
  · exact yp_PM_e1 hR hI (by simp (disch := omega) only [fX11_would_j126, fX11_would_j125, fX11_would_j105, fX11_would_j104, fX11_would_j70, fX11_would_j69, fX11_would_j35, fX11_would_j34, fX11_would, hA, ↓h0, ↓yp_opP q1, ↓yp_smL, ↓yp_smR, Nat.reduceAdd, Nat.reduceMul, Nat.reduceSub, Nat.zero_add, Nat.add_zero, yp_LT, yp_nA, yp_nM, yp_ltF, yp_ltT, yp_leF, yp_leT, yp_eqF, eq_self, yp_eqM, lt1, yp_sbN, yp_sb2N, ↓reduceIte, ↓yp_iP11, ↓yp_iP12, ↓yp_m0P]) (fun m hm => by simp (disch := omega) only [fX12_would_j97, fX12_would_j96, fX12_would, hM, yp_m0e, ↓yp_opP q2, yp_may11, Nat.reduceAdd, Nat.reduceMul, Nat.reduceSub, Nat.zero_add, Nat.add_zero, yp_LT, yp_nA, yp_nM, yp_ltF, yp_ltT, yp_leF, yp_leT, yp_eqF, eq_self, yp_eqM, lt1, yp_sbN, yp_sb2N, ↓reduceIte, ↓yp_iP11, ↓yp_iP12, ↓yp_m0P]) rfl yp_n1
  rcases yp_rngG x2 0 400 (by omega) (by omega) with ⟨k2, _, g2, rfl⟩ | h | h
  rotate_left
  · exact yp_PM_e1 hR hI (by simp (disch := omega) only [fX11_would_j126, fX11_would_j125, fX11_would_j105, fX11_would_j104, fX11_would_j70, fX11_would_j69, fX11_would_j35, fX11_would_j34, fX11_would, hA, ↓h0, ↓hn, ↓yp_opP q1, h, ↓yp_smL, ↓yp_smR, Nat.reduceAdd, Nat.reduceMul, Nat.reduceSub, Nat.zero_add, Nat.add_zero, yp_LT, yp_nA, yp_nM, yp_ltF, yp_ltT, yp_leF, yp_leT, yp_eqF, eq_self, yp_eqM, lt1, yp_sbN, yp_sb2N, ↓reduceIte, ↓yp_iP11, ↓yp_iP12, ↓yp_m0P]) (fun m hm => by simp (disch := omega) only [fX12_would_j97, fX12_would_j96, fX12_would, hM, yp_m0e, ↓yp_opP q2, ↓yp_wiP, h, yp_may11, Nat.reduceAdd, Nat.reduceMul, Nat.reduceSub, Nat.zero_add, Nat.add_zero, yp_LT, yp_nA, yp_nM, yp_ltF, yp_ltT, yp_leF, yp_leT, yp_eqF, eq_self, yp_eqM, lt1, yp_sbN, yp_sb2N, ↓reduceIte, ↓yp_iP11, ↓yp_iP12, ↓yp_m0P]) rfl yp_n1
  · exact yp_PM_e1 hR hI (by simp (disch := omega) only [fX11_would_j126, fX11_would_j125, fX11_would_j105, fX11_would_j104, fX11_would_j70, fX11_would_j69, fX11_would_j35, fX11_would_j34, fX11_would, hA, ↓h0, ↓hn, ↓yp_opP q1, h, ↓yp_smL, ↓yp_smR, Nat.reduceAdd, Nat.reduceMul, Nat.reduceSub, Nat.zero_add, Nat.add_zero, yp_LT, yp_nA, yp_nM, yp_ltF, yp_ltT, yp_leF, yp_leT, yp_eqF, eq_self, yp_eqM, lt1, yp_sbN, yp_sb2N, ↓reduceIte, ↓yp_iP11, ↓yp_iP12, ↓yp_m0P]) (fun m hm => by simp (disch := omega) only [fX12_would_j97, fX12_would_j96, fX12_would, hM, yp_m0e, ↓yp_opP q2, ↓yp_wiP, h, yp_may11, Nat.reduceAdd, Nat.reduceMul, Nat.reduceSub, Nat.zero_add, Nat.add_zero, yp_LT, yp_nA, yp_nM, yp_ltF, yp_ltT, yp_leF, yp_leT, yp_eqF, eq_self, yp_eqM, lt1, yp_sbN, yp_sb2N, ↓reduceIte, ↓yp_iP11, ↓yp_iP12, ↓yp_m0P]) rfl yp_n1
  rcases yp_rngG x3 1 9 (by omega) (by omega) with ⟨k3, i3, g3, rfl⟩ | h | h
  rotate_left
  · exact yp_PM_e1 hR hI (by simp (disch := omega) only [fX11_would_j126, fX11_would_j125, fX11_would_j105, fX11_would_j104, fX11_would_j70, fX11_would_j69, fX11_would_j35, fX11_would_j34, fX11_would, hA, ↓h0, ↓hn, ↓yp_opP q1, h, ↓yp_smL, ↓yp_smR, Nat.reduceAdd, Nat.reduceMul, Nat.reduceSub, Nat.zero_add, Nat.add_zero, yp_LT, yp_nA, yp_nM, yp_ltF, yp_ltT, yp_leF, yp_leT, yp_eqF, eq_self, yp_eqM, lt1, yp_sbN, yp_sb2N, ↓reduceIte, ↓yp_iP11, ↓yp_iP12, ↓yp_m0P]) (fun m hm => by simp (disch := omega) only [fX12_would_j97, fX12_would_j96, fX12_would, hM, yp_m0e, ↓yp_opP q2, ↓yp_wiP, h, yp_may11, Nat.reduceAdd, Nat.reduceMul, Nat.reduceSub, Nat.zero_add, Nat.add_zero, yp_LT, yp_nA, yp_nM, yp_ltF, yp_ltT, yp_leF, yp_leT, yp_eqF, eq_self, yp_eqM, lt1, yp_sbN, yp_sb2N, ↓reduceIte, ↓yp_iP11, ↓yp_iP12, ↓yp_m0P]) rfl yp_n1
  · exact yp_PM_e1 hR hI (by simp (disch := omega) only [fX11_would_j126, fX11_would_j125, fX11_would_j105, fX11_would_j104, fX11_would_j70, fX11_would_j69, fX11_would_j35, fX11_would_j34, fX11_would, hA, ↓h0, ↓hn, ↓yp_opP q1, h, ↓yp_smL, ↓yp_smR, Nat.reduceAdd, Nat.reduceMul, Nat.reduceSub, Nat.zero_add, Nat.add_zero, yp_LT, yp_nA, yp_nM, yp_ltF, yp_ltT, yp_leF, yp_leT, yp_eqF, eq_self, yp_eqM, lt1, yp_sbN, yp_sb2N, ↓reduceIte, ↓yp_iP11, ↓yp_iP12, ↓yp_m0P]) (fun m hm => by simp (disch := omega) only [fX12_would_j97, fX12_would_j96, fX12_would, hM, yp_m0e, ↓yp_opP q2, ↓yp_wiP, h, yp_may11, Nat.reduceAdd, Nat.reduceMul, Nat.reduceSub, Nat.zero_add, Nat.add_zero, yp_LT, yp_nA, yp_nM, yp_ltF, yp_ltT, yp_leF, yp_leT, yp_eqF, eq_self, yp_eqM, lt1, yp_sbN, yp_sb2N, ↓reduceIte, ↓yp_iP11, ↓yp_iP12, ↓yp_m0P]) rfl yp_n1
  rcases yp_rngG x4 0 2800 (by omega) (by omega) with ⟨k4, _, g4, rfl⟩ | h | h
  rotate_left
  · exact yp_PM_e1 hR hI (by simp (disch := omega) only [fX11_would_j126, fX11_would_j125, fX11_would_j105, fX11_would_j104, fX11_would_j70, fX11_would_j69, fX11_would_j35, fX11_would_j34, fX11_would, hA, ↓h0, ↓hn, ↓yp_opP q1, h, ↓yp_smL, ↓yp_smR, Nat.reduceAdd, Nat.reduceMul, Nat.reduceSub, Nat.zero_add, Nat.add_zero, yp_LT, yp_nA, yp_nM, yp_ltF, yp_ltT, yp_leF, yp_leT, yp_eqF, eq_self, yp_eqM, lt1, yp_sbN, yp_sb2N, ↓reduceIte, ↓yp_iP11, ↓yp_iP12, ↓yp_m0P]) (fun m hm => by simp (disch := omega) only [fX12_would_j97, fX12_would_j96, fX12_would, hM, yp_m0e, ↓yp_opP q2, ↓yp_wiP, h, yp_may11, Nat.reduceAdd, Nat.reduceMul, Nat.reduceSub, Nat.zero_add, Nat.add_zero, yp_LT, yp_nA, yp_nM, yp_ltF, yp_ltT, yp_leF, yp_leT, yp_eqF, eq_self, yp_eqM, lt1, yp_sbN, yp_sb2N, ↓reduceIte, ↓yp_iP11, ↓yp_iP12, ↓yp_m0P]) rfl yp_n1
  · exact yp_PM_e1 hR hI (by simp (disch := omega) only [fX11_would_j126, fX11_would_j125, fX11_would_j105, fX11_would_j104, fX11_would_j70, fX11_would_j69, fX11_would_j35, fX11_would_j34, fX11_would, hA, ↓h0, ↓hn, ↓yp_opP q1, h, ↓yp_smL, ↓yp_smR, Nat.reduceAdd, Nat.reduceMul, Nat.reduceSub, Nat.zero_add, Nat.add_zero, yp_LT, yp_nA, yp_nM, yp_ltF, yp_ltT, yp_leF, yp_leT, yp_eqF, eq_self, yp_eqM, lt1, yp_sbN, yp_sb2N, ↓reduceIte, ↓yp_iP11, ↓yp_iP12, ↓yp_m0P]) (fun m hm => by simp (disch := omega) only [fX12_would_j97, fX12_would_j96, fX12_would, hM, yp_m0e, ↓yp_opP q2, ↓yp_wiP, h, yp_may11, Nat.reduceAdd, Nat.reduceMul, Nat.reduceSub, Nat.zero_add, Nat.add_zero, yp_LT, yp_nA, yp_nM, yp_ltF, yp_ltT, yp_leF, yp_leT, yp_eqF, eq_self, yp_eqM, lt1, yp_sbN, yp_sb2N, ↓reduceIte, ↓yp_iP11, ↓yp_iP12, ↓yp_m0P]) rfl yp_n1
  rcases yp_rngG x5 0 400 (by omega) (by omega) with ⟨k5, _, g5, rfl⟩ | h | h
  rotate_left
  · exact yp_PM_e1 hR hI (by simp (disch := omega) only [fX11_would_j126, fX11_would_j125, fX11_would_j105, fX11_would_j104, fX11_would_j70, fX11_would_j69, fX11_would_j35, fX11_would_j34, fX11_would, hA, ↓h0, ↓hn, ↓yp_opP q1, h, ↓yp_smL, ↓yp_smR, Nat.reduceAdd, Nat.reduceMul, Nat.reduceSub, Nat.zero_add, Nat.add_zero, yp_LT, yp_nA, yp_nM, yp_ltF, yp_ltT, yp_leF, yp_leT, yp_eqF, eq_self, yp_eqM, lt1, yp_sbN, yp_sb2N, ↓reduceIte, ↓yp_iP11, ↓yp_iP12, ↓yp_m0P]) (fun m hm => by simp (disch := omega) only [fX12_would_j97, fX12_would_j96, fX12_would, hM, yp_m0e, ↓yp_opP q2, ↓yp_wiP, h, yp_may11, Nat.reduceAdd, Nat.reduceMul, Nat.reduceSub, Nat.zero_add, Nat.add_zero, yp_LT, yp_nA, yp_nM, yp_ltF, yp_ltT, yp_leF, yp_leT, yp_eqF, eq_self, yp_eqM, lt1, yp_sbN, yp_sb2N, ↓reduceIte, ↓yp_iP11, ↓yp_iP12, ↓yp_m0P]) rfl yp_n1
  · exact yp_PM_e1 hR hI (by simp (disch := omega) only [fX11_would_j126, fX11_would_j125, fX11_would_j105, fX11_would_j104, fX11_would_j70, fX11_would_j69, fX11_would_j35, fX11_would_j34, fX11_would, hA, ↓h0, ↓hn, ↓yp_opP q1, h, ↓yp_smL, ↓yp_smR, Nat.reduceAdd, Nat.reduceMul, Nat.reduceSub, Nat.zero_add, Nat.add_zero, yp_LT, yp_nA, yp_nM, yp_ltF, yp_ltT, yp_leF, yp_leT, yp_eqF, eq_self, yp_eqM, lt1, yp_sbN, yp_sb2N, ↓reduceIte, ↓yp_iP11, ↓yp_iP12, ↓yp_m0P]) (fun m hm => by simp (disch := omega) only [fX12_would_j97, fX12_would_j96, fX12_would, hM, yp_m0e, ↓yp_opP q2, ↓yp_wiP, h, yp_may11, Nat.reduceAdd, Nat.reduceMul, Nat.reduceSub, Nat.zero_add, Nat.add_zero, yp_LT, yp_nA, yp_nM, yp_ltF, yp_ltT, yp_leF, yp_leT, yp_eqF, eq_self, yp_eqM, lt1, yp_sbN, yp_sb2N, ↓reduceIte, ↓yp_iP11, ↓yp_iP12, ↓yp_m0P]) rfl yp_n1
  rcases yp_rngG x6 0 999 (by omega) (by omega) with ⟨k6, _, g6, rfl⟩ | h | h
  rotate_left
  · exact yp_PM_e1 hR hI (by simp (disch := omega) only [fX11_would_j126, fX11_would_j125, fX11_would_j105, fX11_would_j104, fX11_would_j70, fX11_would_j69, fX11_would_j35, fX11_would_j34, fX11_would, hA, ↓h0, ↓hn, ↓yp_opP q1, h, ↓yp_smL, ↓yp_smR, Nat.reduceAdd, Nat.reduceMul, Nat.reduceSub, Nat.zero_add, Nat.add_zero, yp_LT, yp_nA, yp_nM, yp_ltF, yp_ltT, yp_leF, yp_leT, yp_eqF, eq_self, yp_eqM, lt1, yp_sbN, yp_sb2N, ↓reduceIte, ↓yp_iP11, ↓yp_iP12, ↓yp_m0P]) (fun m hm => by simp (disch := omega) only [fX12_would_j97, fX12_would_j96, fX12_would, hM, yp_m0e, ↓yp_opP q2, ↓yp_wiP, h, yp_may11, Nat.reduceAdd, Nat.reduceMul, Nat.reduceSub, Nat.zero_add, Nat.add_zero, yp_LT, yp_nA, yp_nM, yp_ltF, yp_ltT, yp_leF, yp_leT, yp_eqF, eq_self, yp_eqM, lt1, yp_sbN, yp_sb2N, ↓reduceIte, ↓yp_iP11, ↓yp_iP12, ↓yp_m0P]) rfl yp_n1
  · exact yp_PM_e1 hR hI (by simp (disch := omega) only [fX11_would_j126, fX11_would_j125, fX11_would_j105, fX11_would_j104, fX11_would_j70, fX11_would_j69, fX11_would_j35, fX11_would_j34, fX11_would, hA, ↓h0, ↓hn, ↓yp_opP q1, h, ↓yp_smL, ↓yp_smR, Nat.reduceAdd, Nat.reduceMul, Nat.reduceSub, Nat.zero_add, Nat.add_zero, yp_LT, yp_nA, yp_nM, yp_ltF, yp_ltT, yp_leF, yp_leT, yp_eqF, eq_self, yp_eqM, lt1, yp_sbN, yp_sb2N, ↓reduceIte, ↓yp_iP11, ↓yp_iP12, ↓yp_m0P]) (fun m hm => by simp (disch := omega) only [fX12_would_j97, fX12_would_j96, fX12_would, hM, yp_m0e, ↓yp_opP q2, ↓yp_wiP, h, yp_may11, Nat.reduceAdd, Nat.reduceMul, Nat.reduceSub, Nat.zero_add, Nat.add_zero, yp_LT, yp_nA, yp_nM, yp_ltF, yp_ltT, yp_leF, yp_leT, yp_eqF, eq_self, yp_eqM, lt1, yp_sbN, yp_sb2N, ↓reduceIte, ↓yp_iP11, ↓yp_iP12, ↓yp_m0P]) rfl yp_n1
  rcases yp_rngG x7 0 400 (by omega) (by omega) with ⟨k7, _, g7, rfl⟩ | h | h
  rotate_left
  · exact yp_PM_e1 hR hI (by simp (disch := omega) only [fX11_would_j126, fX11_would_j125, fX11_would_j105, fX11_would_j104, fX11_would_j70, fX11_would_j69, fX11_would_j35, fX11_would_j34, fX11_would, hA, ↓h0, ↓hn, ↓yp_opP q1, h, ↓yp_smL, ↓yp_smR, Nat.reduceAdd, Nat.reduceMul, Nat.reduceSub, Nat.zero_add, Nat.add_zero, yp_LT, yp_nA, yp_nM, yp_ltF, yp_ltT, yp_leF, yp_leT, yp_eqF, eq_self, yp_eqM, lt1, yp_sbN, yp_sb2N, ↓reduceIte, ↓yp_iP11, ↓yp_iP12, ↓yp_m0P]) (fun m hm => by simp (disch := omega) only [fX12_would_j97, fX12_would_j96, fX12_would, hM, yp_m0e, ↓yp_opP q2, ↓yp_wiP, h, yp_may11, Nat.reduceAdd, Nat.reduceMul, Nat.reduceSub, Nat.zero_add, Nat.add_zero, yp_LT, yp_nA, yp_nM, yp_ltF, yp_ltT, yp_leF, yp_leT, yp_eqF, eq_self, yp_eqM, lt1, yp_sbN, yp_sb2N, ↓reduceIte, ↓yp_iP11, ↓yp_iP12, ↓yp_m0P]) rfl yp_n1
  · exact yp_PM_e1 hR hI (by simp (disch := omega) only [fX11_would_j126, fX11_would_j125, fX11_would_j105, fX11_would_j104, fX11_would_j70, fX11_would_j69, fX11_would_j35, fX11_would_j34, fX11_would, hA, ↓h0, ↓hn, ↓yp_opP q1, h, ↓yp_smL, ↓yp_smR, Nat.reduceAdd, Nat.reduceMul, Nat.reduceSub, Nat.zero_add, Nat.add_zero, yp_LT, yp_nA, yp_nM, yp_ltF, yp_ltT, yp_leF, yp_leT, yp_eqF, eq_self, yp_eqM, lt1, yp_sbN, yp_sb2N, ↓reduceIte, ↓yp_iP11, ↓yp_iP12, ↓yp_m0P]) (fun m hm => by simp (disch := omega) only [fX12_would_j97, fX12_would_j96, fX12_would, hM, yp_m0e, ↓yp_opP q2, ↓yp_wiP, h, yp_may11, Nat.reduceAdd, Nat.reduceMul, Nat.reduceSub, Nat.zero_add, Nat.add_zero, yp_LT, yp_nA, yp_nM, yp_ltF, yp_ltT, yp_leF, yp_leT, yp_eqF, eq_self, yp_eqM, lt1, yp_sbN, yp_sb2N, ↓reduceIte, ↓yp_iP11, ↓yp_iP12, ↓yp_m0P]) rfl yp_n1
  rcases yp_rngG x8 0 5 (by omega) (by omega) with ⟨k8, _, g8, rfl⟩ | h | h
  rotate_left
  · exact yp_PM_e1 hR hI (by simp (disch := omega) only [fX11_would_j126, fX11_would_j125, fX11_would_j105, fX11_would_j104, fX11_would_j70, fX11_would_j69, fX11_would_j35, fX11_would_j34, fX11_would, hA, ↓h0, ↓hn, ↓yp_opP q1, h, ↓yp_smL, ↓yp_smR, Nat.reduceAdd, Nat.reduceMul, Nat.reduceSub, Nat.zero_add, Nat.add_zero, yp_LT, yp_nA, yp_nM, yp_ltF, yp_ltT, yp_leF, yp_leT, yp_eqF, eq_self, yp_eqM, lt1, yp_sbN, yp_sb2N, ↓reduceIte, ↓yp_iP11, ↓yp_iP12, ↓yp_m0P]) (fun m hm => by simp (disch := omega) only [fX12_would_j97, fX12_would_j96, fX12_would, hM, yp_m0e, ↓yp_opP q2, ↓yp_wiP, h, yp_may11, Nat.reduceAdd, Nat.reduceMul, Nat.reduceSub, Nat.zero_add, Nat.add_zero, yp_LT, yp_nA, yp_nM, yp_ltF, yp_ltT, yp_leF, yp_leT, yp_eqF, eq_self, yp_eqM, lt1, yp_sbN, yp_sb2N, ↓reduceIte, ↓yp_iP11, ↓yp_iP12, ↓yp_m0P]) rfl yp_n1
  · exact yp_PM_e1 hR hI (by simp (disch := omega) only [fX11_would_j126, fX11_would_j125, fX11_would_j105, fX11_would_j104, fX11_would_j70, fX11_would_j69, fX11_would_j35, fX11_would_j34, fX11_would, hA, ↓h0, ↓hn, ↓yp_opP q1, h, ↓yp_smL, ↓yp_smR, Nat.reduceAdd, Nat.reduceMul, Nat.reduceSub, Nat.zero_add, Nat.add_zero, yp_LT, yp_nA, yp_nM, yp_ltF, yp_ltT, yp_leF, yp_leT, yp_eqF, eq_self, yp_eqM, lt1, yp_sbN, yp_sb2N, ↓reduceIte, ↓yp_iP11, ↓yp_iP12, ↓yp_m0P]) (fun m hm => by simp (disch := omega) only [fX12_would_j97, fX12_would_j96, fX12_would, hM, yp_m0e, ↓yp_opP q2, ↓yp_wiP, h, yp_may11, Nat.reduceAdd, Nat.reduceMul, Nat.reduceSub, Nat.zero_add, Nat.add_zero, yp_LT, yp_nA, yp_nM, yp_ltF, yp_ltT, yp_leF, yp_leT, yp_eqF, eq_self, yp_eqM, lt1, yp_sbN, yp_sb2N, ↓reduceIte, ↓yp_iP11, ↓yp_iP12, ↓yp_m0P]) rfl yp_n1
  obtain ⟨m1, hm1⟩ : ∃ m, m = up2 (up2 (up2 (up2 (up2 (up2 (up2 (up2 mm (B + 24) 0 (yp_N c)) (B + 24) 1 (yp_N k2)) (B + 24) 2 (yp_N k3)) (B + 24) 3 (yp_N k4)) (B + 24) 4 (yp_N k5)) (B + 24) 5 (yp_N k6)) (B + 24) 6 (yp_N k7)) (B + 24) 7 (yp_N k8) := ⟨_, rfl⟩
  have f1 : ∀ a j, a ≠ B + 24 → m1 a j = mm a j := fun a j h => by
    rw [hm1, yp_up2_n _ _ (by omega), yp_up2_n _ _ (by omega), yp_up2_n _ _ (by omega), yp_up2_n _ _ (by omega), yp_up2_n _ _ (by omega), yp_up2_n _ _ (by omega), yp_up2_n _ _ (by omega), yp_up2_n _ _ (by omega)]
  have hC1 : yp_CLc B m1 (yp_sQ A) := hR.1.fr (fun a j h => f1 a j (by omega))
  obtain ⟨m2, h3, h4⟩ := yp_c_value (a := B + 24) (F := yp_wF (yp_N c) (yp_N k2) (yp_N k3) (yp_N k4) (yp_N k5) (yp_N k6) (yp_N k7) (yp_N k8)) hI.1 hC1 (yp_sa24 B) (by omega) (by omega) (fun j hj => by
    have : j = 0 ∨ j = 1 ∨ j = 2 ∨ j = 3 ∨ j = 4 ∨ j = 5 ∨ j = 6 ∨ j = 7 := by omega
    rw [hm1]
    rcases this with rfl | rfl | rfl | rfl | rfl | rfl | rfl | rfl <;> simp [up2, yp_wF])
  have hC2 : yp_CLc B m2 (yp_sQ A) := hC1.fr (fun a j h => h4 a j (by omega))
  refine yp_PM_v hR hI (v := yp_bnd (yp_qw (yp_sQ A)) (yp_evS (yp_qt (yp_sQ A)) (yp_wF (yp_N c) (yp_N k2) (yp_N k3) (yp_N k4) (yp_N k5) (yp_N k6) (yp_N k7) (yp_N k8)) (yp_qn (yp_sQ A)) 0)) (m1 := m2) ?_ (fun a j k => ?_) (fun m hm => ?_)
  · simp (disch := omega) only [fX11_would_j126, fX11_would_j125, fX11_would_j105, fX11_would_j104, fX11_would_j70, fX11_would_j69, fX11_would_j35, fX11_would_j34, fX11_would, hA, hO, ↓hn, ↓yp_opP q1, ↓yp_smL, ↓yp_smR, ← hm1, h3, yp_c_bounded hC2 hI.1, Nat.reduceAdd, Nat.reduceMul, Nat.reduceSub, Nat.zero_add, Nat.add_zero, yp_LT, yp_nA, yp_nM, yp_ltF, yp_ltT, yp_leF, yp_leT, yp_eqF, eq_self, yp_eqM, lt1, yp_sbN, yp_sb2N, ↓reduceIte, ↓yp_iP11, ↓yp_iP12, ↓yp_m0P]
  · unfold yp_KC at k
    rw [h4 a j (by omega), f1 a j (by omega)]
  · obtain ⟨m3, hm3⟩ : ∃ m', m' = up2 (up2 (up2 (up2 (up2 (up2 (up2 (up2 (yp_m0 B m) (B + 529) 0 (yp_N c)) (B + 529) 1 (yp_N k2)) (B + 529) 2 (yp_N k3)) (B + 529) 3 (yp_N k4)) (B + 529) 4 (yp_N k5)) (B + 529) 5 (yp_N k6)) (B + 529) 6 (yp_N k7)) (B + 529) 7 (yp_N k8) := ⟨_, rfl⟩
    have f3 : ∀ a j, a ≠ B + 529 → m3 a j = yp_m0 B m a j := fun a j h => by
      rw [hm3, yp_up2_n _ _ (by omega), yp_up2_n _ _ (by omega), yp_up2_n _ _ (by omega), yp_up2_n _ _ (by omega), yp_up2_n _ _ (by omega), yp_up2_n _ _ (by omega), yp_up2_n _ _ (by omega), yp_up2_n _ _ (by omega)]
    have hC3 : yp_CLm B m3 (yp_sQ A) := (yp_m0R hm).1.fr (fun a j h => f3 a j (by omega))
    obtain ⟨m4, t1, t2⟩ := yp_m_turns (F := yp_wF (yp_N c) (yp_N k2) (yp_N k3) (yp_N k4) (yp_N k5) (yp_N k6) (yp_N k7) (yp_N k8)) hI.1 hC3 (fun j hj => by
      have : j = 0 ∨ j = 1 ∨ j = 2 ∨ j = 3 ∨ j = 4 ∨ j = 5 ∨ j = 6 ∨ j = 7 := by omega
      rw [hm3]
      rcases this with rfl | rfl | rfl | rfl | rfl | rfl | rfl | rfl <;> simp [up2, yp_wF])
    refine ⟨m4, ?_, fun a j k => ?_⟩
    · simp (disch := omega) only [fX12_would_j97, fX12_would_j96, fX12_would, fX12_turnsOf, hM, hM2, yp_m0e, ↓yp_opP q2, ↓yp_wiP, yp_mayG, ← hm3, t1, Nat.reduceAdd, Nat.reduceMul, Nat.reduceSub, Nat.zero_add, Nat.add_zero, yp_LT, yp_nA, yp_nM, yp_ltF, yp_ltT, yp_leF, yp_leT, yp_eqF, eq_self, yp_eqM, lt1, yp_sbN, yp_sb2N, ↓reduceIte, ↓yp_iP11, ↓yp_iP12, ↓yp_m0P]
    · unfold yp_KM at k
      rw [t2 a j (by omega), f3 a j (by omega)]
set_option maxHeartbeats 1000000 in
theorem yp_m_days {m2 : Mem} {H : Nat → Int32} (hM : yp_HM m2 (B + 533) H) (n : Nat) (hn : n ≤ 99) (x2 : Int32) : ∃ m3, loopN (fun st : Int32 × Mem => fX12_ahead_b46 (yp_SH B) (B + 517) (yp_N n) x2 st.1 st.2) FU (yp_N 0, m2) = some m3 ∧ yp_HM m3 (B + 533) (yp_dayN H n) ∧ yp_Fr (yp_FS B) m2 m3 := by
  have hA := yp_mS B
  obtain ⟨m3, h1, h2, h3⟩ := yp_lpI (step := fun st : Int32 × Mem => fX12_ahead_b46 (yp_SH B) (B + 517) (yp_N n) x2 st.1 st.2) (fun k st => ∃ m, st = (yp_N k, m) ∧ yp_HM m (B + 533) (yp_dayN H k) ∧ yp_Fr (yp_FS B) m2 m) (fun m => yp_HM m (B + 533) (yp_dayN H n) ∧ yp_Fr (yp_FS B) m2 m) n (fun k st hk hI => by
    obtain ⟨m, rfl, h2, h3⟩ := hI
    by_cases e : k = n
    · subst e
      exact .inr ⟨m, by simp (disch := omega) only [fX12_ahead_b46, Nat.reduceAdd, Nat.reduceMul, Nat.reduceSub, Nat.zero_add, Nat.add_zero, yp_LT, yp_nA, yp_nM, yp_ltF, yp_ltT, yp_leF, yp_leT, yp_eqF, eq_self, yp_eqM, lt1, yp_sbN, yp_sb2N, ↓reduceIte, ↓yp_iP11, ↓yp_iP12, ↓yp_m0P], h2, h3⟩
    · obtain ⟨m', e1, e2, e3⟩ := yp_m_day h2
      exact .inl ⟨by omega, (yp_N (k + 1), m'), by simp (disch := omega) only [fX12_ahead_b46, hA, e1, Nat.reduceAdd, Nat.reduceMul, Nat.reduceSub, Nat.zero_add, Nat.add_zero, yp_LT, yp_nA, yp_nM, yp_ltF, yp_ltT, yp_leF, yp_leT, yp_eqF, eq_self, yp_eqM, lt1, yp_sbN, yp_sb2N, ↓reduceIte, ↓yp_iP11, ↓yp_iP12, ↓yp_m0P], m', rfl, e2, h3.tr e3⟩) (show n < FU by rw [yp_FUe]; omega) (s0 := (yp_N 0, m2)) ⟨m2, rfl, hM, yp_Fr.rf⟩
  exact ⟨m3, h1, h2, h3⟩
set_option maxHeartbeats 1000000 in
theorem yp_p_ahead (hR : yp_RCc B mm A) (hI : yp_INV A) (x y : Int32) : yp_PM B (fX11_ahead (yp_SH B) B x y mm) (fun m => fX12_ahead (yp_SH B) (B + 517) x y m) hcI mm A := by
  have hA := yp_clsS B
  have hM := yp_mS B
  have hn := @yp_nd1 B mm
  have h0 := @yp_nd0 B mm A hR
  have hq := hI.1.1
  rcases yp_rng x 99 (by omega) with ⟨n, hn9, rfl⟩ | h | h
  rotate_left
  · exact yp_PM_e1 hR hI (by simp (disch := omega) only [fX11_ahead_j51, fX11_ahead_j25, fX11_ahead_j24, fX11_ahead_j20, fX11_ahead, hA, ↓h0, h, ↓yp_smL, ↓yp_smR, Nat.reduceAdd, Nat.reduceMul, Nat.reduceSub, Nat.zero_add, Nat.add_zero, yp_LT, yp_nA, yp_nM, yp_ltF, yp_ltT, yp_leF, yp_leT, yp_eqF, eq_self, yp_eqM, lt1, yp_sbN, yp_sb2N, ↓reduceIte, ↓yp_iP11, ↓yp_iP12, ↓yp_m0P]) (fun m hm => by simp (disch := omega) only [fX12_ahead_j80, fX12_ahead_j61, fX12_ahead_j30, fX12_ahead_j29, fX12_ahead, hM, yp_m0e, ↓yp_wiP, h, yp_may11, Nat.reduceAdd, Nat.reduceMul, Nat.reduceSub, Nat.zero_add, Nat.add_zero, yp_LT, yp_nA, yp_nM, yp_ltF, yp_ltT, yp_leF, yp_leT, yp_eqF, eq_self, yp_eqM, lt1, yp_sbN, yp_sb2N, ↓reduceIte, ↓yp_iP11, ↓yp_iP12, ↓yp_m0P]) rfl yp_n1
  · exact yp_PM_e1 hR hI (by simp (disch := omega) only [fX11_ahead_j51, fX11_ahead_j25, fX11_ahead_j24, fX11_ahead_j20, fX11_ahead, hA, ↓h0, h, ↓yp_smL, ↓yp_smR, Nat.reduceAdd, Nat.reduceMul, Nat.reduceSub, Nat.zero_add, Nat.add_zero, yp_LT, yp_nA, yp_nM, yp_ltF, yp_ltT, yp_leF, yp_leT, yp_eqF, eq_self, yp_eqM, lt1, yp_sbN, yp_sb2N, ↓reduceIte, ↓yp_iP11, ↓yp_iP12, ↓yp_m0P]) (fun m hm => by simp (disch := omega) only [fX12_ahead_j80, fX12_ahead_j61, fX12_ahead_j30, fX12_ahead_j29, fX12_ahead, hM, yp_m0e, ↓yp_wiP, h, yp_may11, Nat.reduceAdd, Nat.reduceMul, Nat.reduceSub, Nat.zero_add, Nat.add_zero, yp_LT, yp_nA, yp_nM, yp_ltF, yp_ltT, yp_leF, yp_leT, yp_eqF, eq_self, yp_eqM, lt1, yp_sbN, yp_sb2N, ↓reduceIte, ↓yp_iP11, ↓yp_iP12, ↓yp_m0P]) rfl yp_n1
  rcases yp_rng y 1 (by omega) with ⟨k, hk, rfl⟩ | h | h
  rotate_left
  · exact yp_PM_e1 hR hI (by simp (disch := omega) only [fX11_ahead_j51, fX11_ahead_j25, fX11_ahead_j24, fX11_ahead_j20, fX11_ahead, hA, ↓h0, yp_lt_ne h, ↓yp_smL, ↓yp_smR, Nat.reduceAdd, Nat.reduceMul, Nat.reduceSub, Nat.zero_add, Nat.add_zero, yp_LT, yp_nA, yp_nM, yp_ltF, yp_ltT, yp_leF, yp_leT, yp_eqF, eq_self, yp_eqM, lt1, yp_sbN, yp_sb2N, ↓reduceIte, ↓yp_iP11, ↓yp_iP12, ↓yp_m0P]) (fun m hm => by simp (disch := omega) only [fX12_ahead_j80, fX12_ahead_j61, fX12_ahead_j30, fX12_ahead_j29, fX12_ahead, hM, yp_m0e, ↓yp_wiP, h, yp_may11, Nat.reduceAdd, Nat.reduceMul, Nat.reduceSub, Nat.zero_add, Nat.add_zero, yp_LT, yp_nA, yp_nM, yp_ltF, yp_ltT, yp_leF, yp_leT, yp_eqF, eq_self, yp_eqM, lt1, yp_sbN, yp_sb2N, ↓reduceIte, ↓yp_iP11, ↓yp_iP12, ↓yp_m0P]) rfl yp_n1
  · exact yp_PM_e1 hR hI (by simp (disch := omega) only [fX11_ahead_j51, fX11_ahead_j25, fX11_ahead_j24, fX11_ahead_j20, fX11_ahead, hA, ↓h0, yp_gt_ne h, ↓yp_smL, ↓yp_smR, Nat.reduceAdd, Nat.reduceMul, Nat.reduceSub, Nat.zero_add, Nat.add_zero, yp_LT, yp_nA, yp_nM, yp_ltF, yp_ltT, yp_leF, yp_leT, yp_eqF, eq_self, yp_eqM, lt1, yp_sbN, yp_sb2N, ↓reduceIte, ↓yp_iP11, ↓yp_iP12, ↓yp_m0P]) (fun m hm => by simp (disch := omega) only [fX12_ahead_j80, fX12_ahead_j61, fX12_ahead_j30, fX12_ahead_j29, fX12_ahead, hM, yp_m0e, ↓yp_wiP, h, yp_may11, Nat.reduceAdd, Nat.reduceMul, Nat.reduceSub, Nat.zero_add, Nat.add_zero, yp_LT, yp_nA, yp_nM, yp_ltF, yp_ltT, yp_leF, yp_leT, yp_eqF, eq_self, yp_eqM, lt1, yp_sbN, yp_sb2N, ↓reduceIte, ↓yp_iP11, ↓yp_iP12, ↓yp_m0P]) rfl yp_n1
  rcases yp_z01 hk with rfl | rfl
  · refine yp_PM_v hR hI (v := yp_sm (fun k => mxI (yp_N 0) (yp_sH A (42 + k) - yp_N n)) 42) (m1 := mm) ?_ yp_FC.rf (fun m hm => ?_)
    · simp (disch := omega) only [fX11_ahead_j51, fX11_ahead_j25, fX11_ahead_j24, fX11_ahead_j20, fX11_ahead, hA, ↓hn, ↓yp_smL, ↓yp_smR, yp_h_wallAfter (yp_hs33 B) hR.2.1, Nat.reduceAdd, Nat.reduceMul, Nat.reduceSub, Nat.zero_add, Nat.add_zero, yp_LT, yp_nA, yp_nM, yp_ltF, yp_ltT, yp_leF, yp_leT, yp_eqF, eq_self, yp_eqM, lt1, yp_sbN, yp_sb2N, ↓reduceIte, ↓yp_iP11, ↓yp_iP12, ↓yp_m0P]
    · obtain ⟨m2, a1, a2, a3, a4, a5, a6⟩ := yp_take_MA hm
      obtain ⟨m3, e1, e2, e3⟩ := yp_m_days a2 n hn9 (yp_N 0)
      refine ⟨m3, ?_, yp_FM.fs (a6.tr e3)⟩
      rw [yp_wallAfter_eq hI.2.1 n hn9]
      simp (disch := omega) only [fX12_ahead_j80, fX12_ahead_j61, fX12_ahead_j30, fX12_ahead_j29, fX12_ahead, hM, yp_m0e, ↓yp_wiP, yp_mayG, a1, e1, yp_m_sum e2 42 42 (by omega), Nat.reduceAdd, Nat.reduceMul, Nat.reduceSub, Nat.zero_add, Nat.add_zero, yp_LT, yp_nA, yp_nM, yp_ltF, yp_ltT, yp_leF, yp_leT, yp_eqF, eq_self, yp_eqM, lt1, yp_sbN, yp_sb2N, ↓reduceIte, ↓yp_iP11, ↓yp_iP12, ↓yp_m0P]
  · refine yp_PM_v hR hI (v := yp_fo (yp_ltG (yp_sH A) (yp_N n)) 42 (yp_N 0)) (m1 := mm) ?_ yp_FC.rf (fun m hm => ?_)
    · simp (disch := omega) only [fX11_ahead_j51, fX11_ahead_j25, fX11_ahead_j24, fX11_ahead_j20, fX11_ahead, hA, ↓hn, ↓yp_smL, ↓yp_smR, yp_h_lit (yp_hs33 B) hR.2.1, Nat.reduceAdd, Nat.reduceMul, Nat.reduceSub, Nat.zero_add, Nat.add_zero, yp_LT, yp_nA, yp_nM, yp_ltF, yp_ltT, yp_leF, yp_leT, yp_eqF, eq_self, yp_eqM, lt1, yp_sbN, yp_sb2N, ↓reduceIte, ↓yp_iP11, ↓yp_iP12, ↓yp_m0P]
    · obtain ⟨m2, a1, a2, a3, a4, a5, a6⟩ := yp_take_MA hm
      obtain ⟨m3, e1, e2, e3⟩ := yp_m_days a2 n hn9 (yp_N 1)
      refine ⟨m3, ?_, yp_FM.fs (a6.tr e3)⟩
      have e4 : m3 (B + 517) 17 = yp_N (yp_qf (yp_sQ A)) := (e3 _ _ (by unfold yp_FS; omega)).trans a3.1
      rw [yp_lit_eq hI.2.1 hq n (by omega)]
      simp (disch := omega) only [fX12_ahead_j80, fX12_ahead_j61, fX12_ahead_j30, fX12_ahead_j29, fX12_ahead, hM, yp_m0e, ↓yp_wiP, yp_mayG, a1, e1, yp_m_scat e2 e4 hq, Nat.reduceAdd, Nat.reduceMul, Nat.reduceSub, Nat.zero_add, Nat.add_zero, yp_LT, yp_nA, yp_nM, yp_ltF, yp_ltT, yp_leF, yp_leT, yp_eqF, eq_self, yp_eqM, lt1, yp_sbN, yp_sb2N, ↓reduceIte, ↓yp_iP11, ↓yp_iP12, ↓yp_m0P]
set_option maxHeartbeats 1000000 in
theorem yp_m_most {m : Mem} {H : Nat → Int32} (hM : yp_HM m (B + 532) H) (f : Nat) (hf : f < 6) (x2 : Int32) : loopN (fun st : Int32 × Int32 => fX12_strongest_b36 (yp_SH B) (B + 517) (yp_N f) x2 st.1 st.2 m) FU (yp_N 0, yp_N 1) = some (yp_N (yp_fo (yp_mpG H f) 6 0)) := by
  have hA := yp_mS B
  refine yp_lpF (fun k a => (yp_N a, yp_N (k + 1))) (yp_mpG H f) yp_N 6 0 (fun k z hk hz => ?_) (fun z hz => ?_) (by rw [yp_FUe]; omega) rfl
  · have hb := yp_mp_lt H f k (by omega)
    rw [← hz] at hb
    have e1 := hM (f * 7 + (k + 1)) (by omega)
    have e2 := hM (f * 7 + z) (by omega)
    simp (disch := omega) only [fX12_strongest_b36, fX12_strongest_j75, hA, yp_m_in, e1, e2, yp_mpG, Nat.reduceAdd, Nat.reduceMul, Nat.reduceSub, Nat.zero_add, Nat.add_zero, yp_LT, yp_nA, yp_nM, yp_ltF, yp_ltT, yp_leF, yp_leT, yp_eqF, eq_self, yp_eqM, lt1, yp_sbN, yp_sb2N, ↓reduceIte, ↓yp_iP11, ↓yp_iP12, ↓yp_m0P]
    all_goals ((repeat' split) <;> first | rfl | (simp_all [id]; done) | (simp_all [id, Nat.add_assoc]; done) | (simp_all [id] <;> rfl))
  · simp (disch := omega) only [fX12_strongest_b36, Nat.reduceAdd, Nat.reduceMul, Nat.reduceSub, Nat.zero_add, Nat.add_zero, yp_LT, yp_nA, yp_nM, yp_ltF, yp_ltT, yp_leF, yp_leT, yp_eqF, eq_self, yp_eqM, lt1, yp_sbN, yp_sb2N, ↓reduceIte, ↓yp_iP11, ↓yp_iP12, ↓yp_m0P]
set_option maxHeartbeats 1000000 in
theorem yp_m_str0 {m : Mem} {H : Nat → Int32} (hM0 : yp_HM m (B + 532) H) (f : Nat) (hf : f < 6) : (loopN (fun st : Int32 × Int32 => fX12_strongest_b36 (yp_SH B) (B + 517) (yp_N f) (yp_N 0) st.1 st.2 m) FU (yp_N 0, yp_N 1)).bind (fun t => fX12_strongest_j82 (yp_SH B) (B + 517) (yp_N f) (yp_N 0) t m) = some (yp_N (yp_fo (yp_mpG H f) 6 0), m) := by
  rw [yp_m_most hM0 f hf (yp_N 0)]
  simp (disch := omega) only [fX12_strongest_j82, fX12_strongest_j101, Nat.reduceAdd, Nat.reduceMul, Nat.reduceSub, Nat.zero_add, Nat.add_zero, yp_LT, yp_nA, yp_nM, yp_ltF, yp_ltT, yp_leF, yp_leT, yp_eqF, eq_self, yp_eqM, lt1, yp_sbN, yp_sb2N, ↓reduceIte, ↓yp_iP11, ↓yp_iP12, ↓yp_m0P]
set_option maxHeartbeats 1000000 in
theorem yp_m_strJ {m : Mem} {H : Nat → Int32} (hM0 : yp_HM m (B + 532) H) (f z : Nat) (hf : f < 6) (hz : z ≤ 6) : fX12_strongest_j82 (yp_SH B) (B + 517) (yp_N f) (yp_N 1) (yp_N z) m = some (H (f * 7 + z), m) := by
  have hM := yp_mS B
  have e := hM0 (f * 7 + z) (by omega)
  simp (disch := omega) only [fX12_strongest_j82, fX12_strongest_j101, hM, yp_m_in, e, Nat.reduceAdd, Nat.reduceMul, Nat.reduceSub, Nat.zero_add, Nat.add_zero, yp_LT, yp_nA, yp_nM, yp_ltF, yp_ltT, yp_leF, yp_leT, yp_eqF, eq_self, yp_eqM, lt1, yp_sbN, yp_sb2N, ↓reduceIte, ↓yp_iP11, ↓yp_iP12, ↓yp_m0P]
set_option maxHeartbeats 1000000 in
theorem yp_m_str1 {m : Mem} {H : Nat → Int32} (hM0 : yp_HM m (B + 532) H) (f : Nat) (hf : f < 6) : (loopN (fun st : Int32 × Int32 => fX12_strongest_b36 (yp_SH B) (B + 517) (yp_N f) (yp_N 1) st.1 st.2 m) FU (yp_N 0, yp_N 1)).bind (fun t => fX12_strongest_j82 (yp_SH B) (B + 517) (yp_N f) (yp_N 1) t m) = some (H (f * 7 + yp_fo (yp_mpG H f) 6 0), m) := by
  rw [yp_m_most hM0 f hf (yp_N 1), yp_sb]
  exact yp_m_strJ hM0 f _ hf (yp_mp_lt H f 6 (Nat.le_refl 6))
set_option maxHeartbeats 1000000 in
theorem yp_p_strongest (hR : yp_RCc B mm A) (hI : yp_INV A) (x y : Int32) : yp_PM B (fX11_strongest (yp_SH B) B x y mm) (fun m => fX12_strongest (yp_SH B) (B + 517) x y m) hcB mm A := by
  have hA := yp_clsS B
  have hX := yp_HSx (yp_hs33 B)
  have hM := yp_mS B
  have hH := hR.2.1
  have hn := @yp_nd1 B mm
  have h0 := @yp_nd0 B mm A hR
  have hq := hI.1.1
  rcases yp_c_needF hR hI x with ⟨f, hf, rfl, hc⟩ | ⟨hb, hc⟩
  rotate_left
  · exact yp_PM_e0 hR hI (by simp (disch := omega) only [fX11_strongest_j54, fX11_strongest_j20, fX11_strongest_j15, fX11_strongest, hA, ↓yp_bdP hc, ↓yp_smL, ↓yp_smR, Nat.reduceAdd, Nat.reduceMul, Nat.reduceSub, Nat.zero_add, Nat.add_zero, yp_LT, yp_nA, yp_nM, yp_ltF, yp_ltT, yp_leF, yp_leT, yp_eqF, eq_self, yp_eqM, lt1, yp_sbN, yp_sb2N, ↓reduceIte, ↓yp_iP11, ↓yp_iP12, ↓yp_m0P]) (fun m hm => by simp (disch := omega) only [fX12_strongest_j29, fX12_strongest_j101, fX12_strongest_j82, fX12_strongest_j75, fX12_strongest, hM, yp_m0e, yp_m_isF0 hm hI hb, Nat.reduceAdd, Nat.reduceMul, Nat.reduceSub, Nat.zero_add, Nat.add_zero, yp_LT, yp_nA, yp_nM, yp_ltF, yp_ltT, yp_leF, yp_leT, yp_eqF, eq_self, yp_eqM, lt1, yp_sbN, yp_sb2N, ↓reduceIte, ↓yp_iP11, ↓yp_iP12, ↓yp_m0P]) rfl
  have hf6 : f < 6 := by omega
  rcases yp_rng y 1 (by omega) with ⟨k, hk, rfl⟩ | h | h
  rotate_left
  · exact yp_PM_e1 hR hI (by simp (disch := omega) only [fX11_strongest_j54, fX11_strongest_j20, fX11_strongest_j15, fX11_strongest, hA, ↓yp_bdP hc, ↓h0, yp_lt_ne h, ↓yp_smL, ↓yp_smR, Nat.reduceAdd, Nat.reduceMul, Nat.reduceSub, Nat.zero_add, Nat.add_zero, yp_LT, yp_nA, yp_nM, yp_ltF, yp_ltT, yp_leF, yp_leT, yp_eqF, eq_self, yp_eqM, lt1, yp_sbN, yp_sb2N, ↓reduceIte, ↓yp_iP11, ↓yp_iP12, ↓yp_m0P]) (fun m hm => by simp (disch := omega) only [fX12_strongest_j29, fX12_strongest_j101, fX12_strongest_j82, fX12_strongest_j75, fX12_strongest, hM, yp_m0e, yp_m_isF1 hm hI hf, ↓yp_wiP, h, yp_may21, Nat.reduceAdd, Nat.reduceMul, Nat.reduceSub, Nat.zero_add, Nat.add_zero, yp_LT, yp_nA, yp_nM, yp_ltF, yp_ltT, yp_leF, yp_leT, yp_eqF, eq_self, yp_eqM, lt1, yp_sbN, yp_sb2N, ↓reduceIte, ↓yp_iP11, ↓yp_iP12, ↓yp_m0P]) rfl yp_n2
  · exact yp_PM_e1 hR hI (by simp (disch := omega) only [fX11_strongest_j54, fX11_strongest_j20, fX11_strongest_j15, fX11_strongest, hA, ↓yp_bdP hc, ↓h0, yp_gt_ne h, ↓yp_smL, ↓yp_smR, Nat.reduceAdd, Nat.reduceMul, Nat.reduceSub, Nat.zero_add, Nat.add_zero, yp_LT, yp_nA, yp_nM, yp_ltF, yp_ltT, yp_leF, yp_leT, yp_eqF, eq_self, yp_eqM, lt1, yp_sbN, yp_sb2N, ↓reduceIte, ↓yp_iP11, ↓yp_iP12, ↓yp_m0P]) (fun m hm => by simp (disch := omega) only [fX12_strongest_j29, fX12_strongest_j101, fX12_strongest_j82, fX12_strongest_j75, fX12_strongest, hM, yp_m0e, yp_m_isF1 hm hI hf, ↓yp_wiP, h, yp_may21, Nat.reduceAdd, Nat.reduceMul, Nat.reduceSub, Nat.zero_add, Nat.add_zero, yp_LT, yp_nA, yp_nM, yp_ltF, yp_ltT, yp_leF, yp_leT, yp_eqF, eq_self, yp_eqM, lt1, yp_sbN, yp_sb2N, ↓reduceIte, ↓yp_iP11, ↓yp_iP12, ↓yp_m0P]) rfl yp_n2
  have hp := yp_mp_lt (yp_sH A) f 6 (by omega)
  rcases yp_z01 hk with rfl | rfl
  · refine yp_PM_st hR hI (v := yp_N (yp_fo (yp_mpG (yp_sH A) f) 6 0)) ?_ (fun m hm hm0 => ?_)
    · simp (disch := omega) only [fX11_strongest_j54, fX11_strongest_j20, fX11_strongest_j15, fX11_strongest, hA, hX, ↓yp_bdP hc, ↓hn, ↓yp_smL, ↓yp_smR, yp_h_most (yp_hs33 B) hH f hf6, Nat.reduceAdd, Nat.reduceMul, Nat.reduceSub, Nat.zero_add, Nat.add_zero, yp_LT, yp_nA, yp_nM, yp_ltF, yp_ltT, yp_leF, yp_leT, yp_eqF, eq_self, yp_eqM, lt1, yp_sbN, yp_sb2N, ↓reduceIte, ↓yp_iP11, ↓yp_iP12, ↓yp_m0P]
    · simp (disch := omega) only [fX12_strongest, hM, yp_m0e, yp_m_isF1 hm hI hf, ↓yp_wiP, yp_mayG, yp_m_str0 hm0.2.1 f hf6, Nat.reduceAdd, Nat.reduceMul, Nat.reduceSub, Nat.zero_add, Nat.add_zero, yp_LT, yp_nA, yp_nM, yp_ltF, yp_ltT, yp_leF, yp_leT, yp_eqF, eq_self, yp_eqM, lt1, yp_sbN, yp_sb2N, ↓reduceIte, ↓yp_iP11, ↓yp_iP12, ↓yp_m0P]
  · refine yp_PM_st hR hI (v := yp_sH A (f * 7 + yp_fo (yp_mpG (yp_sH A) f) 6 0)) ?_ (fun m hm hm0 => ?_)
    · simp (disch := omega) only [fX11_strongest_j54, fX11_strongest_j20, fX11_strongest_j15, fX11_strongest, hA, hX, ↓yp_bdP hc, ↓hn, ↓yp_smL, ↓yp_smR, yp_h_most (yp_hs33 B) hH f hf6, hH.1 (f * 7 + yp_fo (yp_mpG (yp_sH A) f) 6 0) (by omega), Nat.reduceAdd, Nat.reduceMul, Nat.reduceSub, Nat.zero_add, Nat.add_zero, yp_LT, yp_nA, yp_nM, yp_ltF, yp_ltT, yp_leF, yp_leT, yp_eqF, eq_self, yp_eqM, lt1, yp_sbN, yp_sb2N, ↓reduceIte, ↓yp_iP11, ↓yp_iP12, ↓yp_m0P]
    · simp (disch := omega) only [fX12_strongest, hM, yp_m0e, yp_m_isF1 hm hI hf, ↓yp_wiP, yp_mayG, yp_m_str1 hm0.2.1 f hf6, Nat.reduceAdd, Nat.reduceMul, Nat.reduceSub, Nat.zero_add, Nat.add_zero, yp_LT, yp_nA, yp_nM, yp_ltF, yp_ltT, yp_leF, yp_leT, yp_eqF, eq_self, yp_eqM, lt1, yp_sbN, yp_sb2N, ↓reduceIte, ↓yp_iP11, ↓yp_iP12, ↓yp_m0P]
def yp_msG (H : Nat → Int32) (f k : Nat) (a : Int32) : Int32 := if H (f * 7 + k) ≤ a then a else H (f * 7 + k)
set_option maxHeartbeats 1000000 in
theorem yp_ms_eq {Q : yp_EnvT} {H : Nat → Int32} (hH : yp_HI Q H) (f : Nat) (hf : f < 6) : ∀ n, n ≤ 6 → yp_fo (yp_msG H f) (n + 1) (yp_N 0) = H (f * 7 + yp_fo (yp_mpG H f) n 0) := by
  intro n
  induction n with
  | zero =>
    intro _
    show yp_msG H f 0 (yp_N 0) = H (f * 7 + 0)
    have h1 := hH.nn0 (f * 7 + 0) (by omega)
    unfold yp_msG
    by_cases e : H (f * 7 + 0) ≤ yp_N 0
    · rw [if_pos e]; exact Int32.le_antisymm h1 e
    · rw [if_neg e]
  | succ n ih =>
    intro hn
    rw [yp_fo_s, ih (by omega), yp_fo_s]
    generalize yp_fo (yp_mpG H f) n 0 = z
    unfold yp_msG yp_mpG
    by_cases e : H (f * 7 + (n + 1)) ≤ H (f * 7 + z)
    · rw [if_pos e, if_pos e]
    · rw [if_neg e, if_neg e]
set_option maxHeartbeats 1000000 in
theorem yp_m_strOf {m : Mem} {H : Nat → Int32} (hM : yp_HM m (B + 532) H) (f : Nat) (hf : f < 6) : fX12_strongestOf (yp_SH B) (B + 517) (yp_N f) m = some (yp_fo (yp_msG H f) 7 (yp_N 0)) := by
  have hA := yp_mS B
  simp (disch := omega) only [fX12_strongestOf_j47, fX12_strongestOf_j40, fX12_strongestOf, Nat.reduceAdd, Nat.reduceMul, Nat.reduceSub, Nat.zero_add, Nat.add_zero, yp_LT, yp_nA, yp_nM, yp_ltF, yp_ltT, yp_leF, yp_leT, yp_eqF, eq_self, yp_eqM, lt1, yp_sbN, yp_sb2N, ↓reduceIte, ↓yp_iP11, ↓yp_iP12, ↓yp_m0P]
  refine Eq.trans (yp_lpB (fun k a => (a, yp_N k)) (yp_msG H f) (id) (7) (yp_N 0) (by rw [yp_FUe]; omega) rfl (fun k z hk hz => ?_) (fun z hz => ?_)) ?_
  · have e1 := hM (f * 7 + k) (by omega)
    simp (disch := omega) only [fX12_strongestOf_b4, fX12_strongestOf_j40, hA, yp_m_in, e1, yp_msG, Nat.reduceAdd, Nat.reduceMul, Nat.reduceSub, Nat.zero_add, Nat.add_zero, yp_LT, yp_nA, yp_nM, yp_ltF, yp_ltT, yp_leF, yp_leT, yp_eqF, eq_self, yp_eqM, lt1, yp_sbN, yp_sb2N, ↓reduceIte, ↓yp_iP11, ↓yp_iP12, ↓yp_m0P]
    all_goals ((repeat' split) <;> first | rfl | (simp_all [id]; done) | (simp_all [id, Nat.add_assoc]; done) | (simp_all [id] <;> rfl))
  · simp (disch := omega) only [fX12_strongestOf_b4, Nat.reduceAdd, Nat.reduceMul, Nat.reduceSub, Nat.zero_add, Nat.add_zero, yp_LT, yp_nA, yp_nM, yp_ltF, yp_ltT, yp_leF, yp_leT, yp_eqF, eq_self, yp_eqM, lt1, yp_sbN, yp_sb2N, ↓reduceIte, ↓yp_iP11, ↓yp_iP12, ↓yp_m0P]
    rfl
  · simp only [id]
set_option maxHeartbeats 1000000 in
theorem yp_p_lacks (hR : yp_RCc B mm A) (hI : yp_INV A) (x y : Int32) : yp_PM B (fX11_lacks (yp_SH B) B x y mm) (fun m => fX12_lacks (yp_SH B) (B + 517) x y m) hcB mm A := by
  have hA := yp_clsS B
  have hX := yp_HSx (yp_hs33 B)
  have hM := yp_mS B
  have hH := hR.2.1
  have hn := @yp_nd1 B mm
  have h0 := @yp_nd0 B mm A hR
  have hq := hI.1.1
  rcases yp_c_needF hR hI x with ⟨f, hf, rfl, hc⟩ | ⟨hb, hc⟩
  rotate_left
  · exact yp_PM_e0 hR hI (by simp (disch := omega) only [fX11_lacks, hA, ↓yp_bdP hc, ↓yp_smL, ↓yp_smR, Nat.reduceAdd, Nat.reduceMul, Nat.reduceSub, Nat.zero_add, Nat.add_zero, yp_LT, yp_nA, yp_nM, yp_ltF, yp_ltT, yp_leF, yp_leT, yp_eqF, eq_self, yp_eqM, lt1, yp_sbN, yp_sb2N, ↓reduceIte, ↓yp_iP11, ↓yp_iP12, ↓yp_m0P]) (fun m hm => by simp (disch := omega) only [fX12_lacks_j27, fX12_lacks, hM, yp_m0e, yp_m_isF0 hm hI hb, Nat.reduceAdd, Nat.reduceMul, Nat.reduceSub, Nat.zero_add, Nat.add_zero, yp_LT, yp_nA, yp_nM, yp_ltF, yp_ltT, yp_leF, yp_leT, yp_eqF, eq_self, yp_eqM, lt1, yp_sbN, yp_sb2N, ↓reduceIte, ↓yp_iP11, ↓yp_iP12, ↓yp_m0P]) rfl
  have hf6 : f < 6 := by omega
  rcases yp_partR y with ⟨c, hcc, rfl, q1, q2⟩ | ⟨q1, q2⟩
  rotate_left
  · exact yp_PM_e1 hR hI (by simp (disch := omega) only [fX11_lacks, hA, ↓yp_bdP hc, ↓h0, ↓yp_opP q1, ↓yp_smL, ↓yp_smR, Nat.reduceAdd, Nat.reduceMul, Nat.reduceSub, Nat.zero_add, Nat.add_zero, yp_LT, yp_nA, yp_nM, yp_ltF, yp_ltT, yp_leF, yp_leT, yp_eqF, eq_self, yp_eqM, lt1, yp_sbN, yp_sb2N, ↓reduceIte, ↓yp_iP11, ↓yp_iP12, ↓yp_m0P]) (fun m hm => by simp (disch := omega) only [fX12_lacks_j27, fX12_lacks, hM, yp_m0e, yp_m_isF1 hm hI hf, ↓yp_opP q2, yp_may21, Nat.reduceAdd, Nat.reduceMul, Nat.reduceSub, Nat.zero_add, Nat.add_zero, yp_LT, yp_nA, yp_nM, yp_ltF, yp_ltT, yp_leF, yp_leT, yp_eqF, eq_self, yp_eqM, lt1, yp_sbN, yp_sb2N, ↓reduceIte, ↓yp_iP11, ↓yp_iP12, ↓yp_m0P]) rfl yp_n2
  have hp := yp_mp_lt (yp_sH A) f 6 (by omega)
  refine yp_PM_st hR hI (v := yp_sH A (f * 7 + yp_fo (yp_mpG (yp_sH A) f) 6 0) - yp_sH A (f * 7 + c)) ?_ (fun m hm hm0 => ?_)
  · simp (disch := omega) only [fX11_lacks, hA, hX, ↓yp_bdP hc, ↓hn, ↓yp_opP q1, ↓yp_smL, ↓yp_smR, yp_h_most (yp_hs33 B) hH f hf6, hH.1 (f * 7 + yp_fo (yp_mpG (yp_sH A) f) 6 0) (by omega), hH.1 (f * 7 + c) (by omega), Nat.reduceAdd, Nat.reduceMul, Nat.reduceSub, Nat.zero_add, Nat.add_zero, yp_LT, yp_nA, yp_nM, yp_ltF, yp_ltT, yp_leF, yp_leT, yp_eqF, eq_self, yp_eqM, lt1, yp_sbN, yp_sb2N, ↓reduceIte, ↓yp_iP11, ↓yp_iP12, ↓yp_m0P]
  · have e := hm0.2.1 (f * 7 + c) (by omega)
    rw [← yp_ms_eq hI.2.1 f hf6 6 (by omega)]
    simp (disch := omega) only [fX12_lacks_j27, fX12_lacks, hM, yp_m0e, yp_m_isF1 hm hI hf, ↓yp_opP q2, yp_mayG, yp_m_strOf hm0.2.1 f hf6, yp_m_in, e, Nat.reduceAdd, Nat.reduceMul, Nat.reduceSub, Nat.zero_add, Nat.add_zero, yp_LT, yp_nA, yp_nM, yp_ltF, yp_ltT, yp_leF, yp_leT, yp_eqF, eq_self, yp_eqM, lt1, yp_sbN, yp_sb2N, ↓reduceIte, ↓yp_iP11, ↓yp_iP12, ↓yp_m0P]
set_option maxHeartbeats 1000000 in
theorem yp_p_joins (hR : yp_RCc B mm A) (hI : yp_INV A) (x z : Int32) : yp_PM B (fX11_joins (yp_SH B) B x z mm) (fun m => fX12_joins (yp_SH B) (B + 517) x z m) hcN mm A := by
  have hA := yp_clsS B
  have hM := yp_mS B
  have hH := hR.2.1
  have hq := hI.1.1
  rcases yp_c_needF hR hI x with ⟨f, hf, rfl, hc⟩ | ⟨hb, hc⟩
  rotate_left
  · exact yp_PM_e0 hR hI (by simp (disch := omega) only [fX11_joins, hA, ↓yp_bdP hc, ↓yp_smL, ↓yp_smR, Nat.reduceAdd, Nat.reduceMul, Nat.reduceSub, Nat.zero_add, Nat.add_zero, yp_LT, yp_nA, yp_nM, yp_ltF, yp_ltT, yp_leF, yp_leT, yp_eqF, eq_self, yp_eqM, lt1, yp_sbN, yp_sb2N, ↓reduceIte, ↓yp_iP11, ↓yp_iP12, ↓yp_m0P]) (fun m hm => by simp (disch := omega) only [fX12_joins_j23, fX12_joins, hM, yp_m0e, yp_m_isF0 hm hI hb, Nat.reduceAdd, Nat.reduceMul, Nat.reduceSub, Nat.zero_add, Nat.add_zero, yp_LT, yp_nA, yp_nM, yp_ltF, yp_ltT, yp_leF, yp_leT, yp_eqF, eq_self, yp_eqM, lt1, yp_sbN, yp_sb2N, ↓reduceIte, ↓yp_iP11, ↓yp_iP12, ↓yp_m0P]) rfl
  have hf6 : f < 6 := by omega
  rcases yp_c_needG hR hI z with ⟨g, hg, rfl, hcg⟩ | ⟨hb, hcg⟩
  rotate_left
  · exact yp_PM_e0 hR hI (by simp (disch := omega) only [fX11_joins, hA, ↓yp_bdP hc, ↓yp_bdP hcg, ↓yp_smL, ↓yp_smR, Nat.reduceAdd, Nat.reduceMul, Nat.reduceSub, Nat.zero_add, Nat.add_zero, yp_LT, yp_nA, yp_nM, yp_ltF, yp_ltT, yp_leF, yp_leT, yp_eqF, eq_self, yp_eqM, lt1, yp_sbN, yp_sb2N, ↓reduceIte, ↓yp_iP11, ↓yp_iP12, ↓yp_m0P]) (fun m hm => by simp (disch := omega) only [fX12_joins_j23, fX12_joins, hM, yp_m0e, yp_m_isF1 hm hI hf, yp_m_isG0 hm hI hb, Nat.reduceAdd, Nat.reduceMul, Nat.reduceSub, Nat.zero_add, Nat.add_zero, yp_LT, yp_nA, yp_nM, yp_ltF, yp_ltT, yp_leF, yp_leT, yp_eqF, eq_self, yp_eqM, lt1, yp_sbN, yp_sb2N, ↓reduceIte, ↓yp_iP11, ↓yp_iP12, ↓yp_m0P]) rfl
  obtain ⟨m1, t1, t2⟩ := yp_c_joined hI.1 hR.1 (yp_hs33 B) hH (by omega) f g hf6 hg
  refine yp_PM_v hR hI (v := yp_jb (yp_sQ A) (yp_sH A) f g) (m1 := m1) ?_ (yp_FC.to t2) (fun m hm => ?_)
  · simp (disch := omega) only [fX11_joins, hA, ↓yp_bdP hc, ↓yp_bdP hcg, ↓yp_smL, ↓yp_smR, t1, Nat.reduceAdd, Nat.reduceMul, Nat.reduceSub, Nat.zero_add, Nat.add_zero, yp_LT, yp_nA, yp_nM, yp_ltF, yp_ltT, yp_leF, yp_leT, yp_eqF, eq_self, yp_eqM, lt1, yp_sbN, yp_sb2N, ↓reduceIte, ↓yp_iP11, ↓yp_iP12, ↓yp_m0P]
  · obtain ⟨m2, a1, a2, a3, a4, a5, a6⟩ := yp_take_MA hm
    obtain ⟨m3, t3, t4⟩ := yp_m_comes hI.1 a3 a2 f g hf6 hg
    refine ⟨m3, ?_, (yp_FM.fs a6).tm t4⟩
    simp (disch := omega) only [fX12_joins_j23, fX12_joins, hM, yp_m0e, yp_m_isF1 hm hI hf, yp_m_isG1 hm hI hg, a1, t3, Nat.reduceAdd, Nat.reduceMul, Nat.reduceSub, Nat.zero_add, Nat.add_zero, yp_LT, yp_nA, yp_nM, yp_ltF, yp_ltT, yp_leF, yp_leT, yp_eqF, eq_self, yp_eqM, lt1, yp_sbN, yp_sb2N, ↓reduceIte, ↓yp_iP11, ↓yp_iP12, ↓yp_m0P]
set_option maxHeartbeats 1000000 in
theorem yp_szE (v : Int32) : fX12_size v = some (abI v) := by
  unfold fX12_size fX12_size_j10 abI
  split
  · rfl
  · rw [Int32.zero_sub]
set_option maxHeartbeats 1000000 in
theorem yp_p_halo (hR : yp_RCc B mm A) (hI : yp_INV A) (x y : Int32) : yp_PM B (fX11_halo (yp_SH B) B x y mm) (fun m => fX12_halo (yp_SH B) (B + 517) x y m) hcI mm A := by
  have hA := yp_clsS B
  have hM := yp_mS B
  have hn := @yp_nd1 B mm
  have h0 := @yp_nd0 B mm A hR
  have hq := hI.1.2.2.2.1
  have hq1 := hI.1.2.2.1
  rcases yp_plR hR hI x with ⟨f, hf, rfl, hc⟩ | ⟨hb, hc⟩
  rotate_left
  · refine yp_PM_e1 hR hI (by simp (disch := omega) only [fX11_halo_j24, fX11_halo_j23, fX11_halo, hA, hc, ↓h0, ↓yp_smL, ↓yp_smR, Nat.reduceAdd, Nat.reduceMul, Nat.reduceSub, Nat.zero_add, Nat.add_zero, yp_LT, yp_nA, yp_nM, yp_ltF, yp_ltT, yp_leF, yp_leT, yp_eqF, eq_self, yp_eqM, lt1, yp_sbN, yp_sb2N, ↓reduceIte, ↓yp_iP11, ↓yp_iP12, ↓yp_m0P]) (fun m hm => ?_) rfl yp_n1
    have e := (yp_m0R hm).1.2.2.1
    have e2 := yp_wi_bad (by omega) hb
    simp (disch := omega) only [fX12_halo_j99, fX12_halo_j91, fX12_halo_j35, fX12_halo_j34, fX12_halo, hM, yp_m0e, e, e2, yp_may11, Nat.reduceAdd, Nat.reduceMul, Nat.reduceSub, Nat.zero_add, Nat.add_zero, yp_LT, yp_nA, yp_nM, yp_ltF, yp_ltT, yp_leF, yp_leT, yp_eqF, eq_self, yp_eqM, lt1, yp_sbN, yp_sb2N, ↓reduceIte, ↓yp_iP11, ↓yp_iP12, ↓yp_m0P]
  rcases yp_rng y 99 (by omega) with ⟨n, hn9, rfl⟩ | h | h
  rotate_left
  · exact yp_PM_e1 hR hI (by simp (disch := omega) only [fX11_halo_j24, fX11_halo_j23, fX11_halo, hA, ↓yp_opP hc, ↓h0, h, ↓yp_smL, ↓yp_smR, Nat.reduceAdd, Nat.reduceMul, Nat.reduceSub, Nat.zero_add, Nat.add_zero, yp_LT, yp_nA, yp_nM, yp_ltF, yp_ltT, yp_leF, yp_leT, yp_eqF, eq_self, yp_eqM, lt1, yp_sbN, yp_sb2N, ↓reduceIte, ↓yp_iP11, ↓yp_iP12, ↓yp_m0P]) (fun m hm => by have e := (yp_m0R hm).1.2.2.1; simp (disch := omega) only [fX12_halo_j99, fX12_halo_j91, fX12_halo_j35, fX12_halo_j34, fX12_halo, hM, yp_m0e, e, yp_nS, yp_m_wiG, h, yp_may11, Nat.reduceAdd, Nat.reduceMul, Nat.reduceSub, Nat.zero_add, Nat.add_zero, yp_LT, yp_nA, yp_nM, yp_ltF, yp_ltT, yp_leF, yp_leT, yp_eqF, eq_self, yp_eqM, lt1, yp_sbN, yp_sb2N, ↓reduceIte, ↓yp_iP11, ↓yp_iP12, ↓yp_m0P]) rfl yp_n1
  · exact yp_PM_e1 hR hI (by simp (disch := omega) only [fX11_halo_j24, fX11_halo_j23, fX11_halo, hA, ↓yp_opP hc, ↓h0, h, ↓yp_smL, ↓yp_smR, Nat.reduceAdd, Nat.reduceMul, Nat.reduceSub, Nat.zero_add, Nat.add_zero, yp_LT, yp_nA, yp_nM, yp_ltF, yp_ltT, yp_leF, yp_leT, yp_eqF, eq_self, yp_eqM, lt1, yp_sbN, yp_sb2N, ↓reduceIte, ↓yp_iP11, ↓yp_iP12, ↓yp_m0P]) (fun m hm => by have e := (yp_m0R hm).1.2.2.1; simp (disch := omega) only [fX12_halo_j99, fX12_halo_j91, fX12_halo_j35, fX12_halo_j34, fX12_halo, hM, yp_m0e, e, yp_nS, yp_m_wiG, h, yp_may11, Nat.reduceAdd, Nat.reduceMul, Nat.reduceSub, Nat.zero_add, Nat.add_zero, yp_LT, yp_nA, yp_nM, yp_ltF, yp_ltT, yp_leF, yp_leT, yp_eqF, eq_self, yp_eqM, lt1, yp_sbN, yp_sb2N, ↓reduceIte, ↓yp_iP11, ↓yp_iP12, ↓yp_m0P]) rfl yp_n1
  refine yp_PM_st hR hI (v := yp_fo (yp_nrG (yp_sH A) (yp_N f) (yp_N n)) 42 (yp_N 0)) ?_ (fun m hm hm0 => ?_)
  · simp (disch := omega) only [fX11_halo_j24, fX11_halo_j23, fX11_halo, hA, ↓yp_opP hc, ↓hn, ↓yp_smL, ↓yp_smR, yp_h_near (yp_hs33 B) hR.2.1, Nat.reduceAdd, Nat.reduceMul, Nat.reduceSub, Nat.zero_add, Nat.add_zero, yp_LT, yp_nA, yp_nM, yp_ltF, yp_ltT, yp_leF, yp_leT, yp_eqF, eq_self, yp_eqM, lt1, yp_sbN, yp_sb2N, ↓reduceIte, ↓yp_iP11, ↓yp_iP12, ↓yp_m0P]
  · have e := hm0.1.2.2.1
    have e2 := yp_wi_good (by omega) hf
    have e3 : loopN (fun st : Int32 × Int32 => fX12_halo_b50 (yp_SH B) (B + 517) (yp_N f) (yp_N n) st.1 st.2 (yp_m0 B m)) FU (yp_N 0, yp_N 0) = some (yp_fo (yp_nrG (yp_sH A) (yp_N f) (yp_N n)) 42 (yp_N 0)) := by
      refine yp_lpF (fun k a => (a, yp_N k)) (yp_nrG (yp_sH A) (yp_N f) (yp_N n)) id 42 (yp_N 0) (fun k z hk hz => ?_) (fun z hz => ?_) (by rw [yp_FUe]; omega) rfl
      · have e5 := hm0.2.1 (84 + k) (by omega)
        have e6 := hm0.2.1 (42 + k) (by omega)
        have e7 : ∀ z : Int32, z + yp_N 0 = z := Int32.add_zero
        simp (disch := omega) only [fX12_halo_b50, fX12_halo_j91, hM, e5, e6, yp_szE, yp_nrG, e7, Nat.reduceAdd, Nat.reduceMul, Nat.reduceSub, Nat.zero_add, Nat.add_zero, yp_LT, yp_nA, yp_nM, yp_ltF, yp_ltT, yp_leF, yp_leT, yp_eqF, eq_self, yp_eqM, lt1, yp_sbN, yp_sb2N, ↓reduceIte, ↓yp_iP11, ↓yp_iP12, ↓yp_m0P]
        all_goals ((repeat' split) <;> first | rfl | (simp_all [id]; done) | (simp_all [id, Nat.add_assoc]; done) | (simp_all [id] <;> rfl))
      · simp (disch := omega) only [fX12_halo_b50, Nat.reduceAdd, Nat.reduceMul, Nat.reduceSub, Nat.zero_add, Nat.add_zero, yp_LT, yp_nA, yp_nM, yp_ltF, yp_ltT, yp_leF, yp_leT, yp_eqF, eq_self, yp_eqM, lt1, yp_sbN, yp_sb2N, ↓reduceIte, ↓yp_iP11, ↓yp_iP12, ↓yp_m0P]
        rfl
    simp (disch := omega) only [fX12_halo_j99, fX12_halo_j91, fX12_halo_j35, fX12_halo_j34, fX12_halo, hM, yp_m0e, e, yp_nS, yp_m_wiG, yp_mayG, e3, Nat.reduceAdd, Nat.reduceMul, Nat.reduceSub, Nat.zero_add, Nat.add_zero, yp_LT, yp_nA, yp_nM, yp_ltF, yp_ltT, yp_leF, yp_leT, yp_eqF, eq_self, yp_eqM, lt1, yp_sbN, yp_sb2N, ↓reduceIte, ↓yp_iP11, ↓yp_iP12, ↓yp_m0P]
set_option maxHeartbeats 1000000 in
theorem yp_p_lit (hR : yp_RCc B mm A) (hI : yp_INV A) : ∃ v, fX11_lit (yp_SH B) B mm = some v ∧ ∀ m, yp_RMm B m A → ∃ m2, fX12_lit (yp_SH B) (B + 517) m = some (v, m2) ∧ yp_FM B m m2 := by
  have hA := yp_clsS B
  have hM := yp_mS B
  have hw := hI.1.2.2.2.1
  have c3 := hR.1.2.2.1
  refine ⟨yp_fo (fun p a => a + (if yp_fo (yp_apG (yp_sH A) (yp_N p)) 42 (yp_N 0) ≤ yp_N 0 then yp_N 0 else yp_N 1)) (yp_qw (yp_sQ A)) (yp_N 0), ?_, fun m hm => ?_⟩
  · simp (disch := omega) only [fX11_lit_j41, fX11_lit_j33, fX11_lit, Nat.reduceAdd, Nat.reduceMul, Nat.reduceSub, Nat.zero_add, Nat.add_zero, yp_LT, yp_nA, yp_nM, yp_ltF, yp_ltT, yp_leF, yp_leT, yp_eqF, eq_self, yp_eqM, lt1, yp_sbN, yp_sb2N, ↓reduceIte, ↓yp_iP11, ↓yp_iP12, ↓yp_m0P]
    refine Eq.trans (yp_lpB (fun k a => (a, yp_N k)) (fun p a => a + (if yp_fo (yp_apG (yp_sH A) (yp_N p)) 42 (yp_N 0) ≤ yp_N 0 then yp_N 0 else yp_N 1)) (id) (yp_qw (yp_sQ A)) (yp_N 0) (by rw [yp_FUe]; omega) rfl (fun k z hk hz => ?_) (fun z hz => ?_)) ?_
    · simp (disch := omega) only [fX11_lit_b4, fX11_lit_j33, hA, c3, yp_h_near (yp_hs33 B) hR.2.1, yp_near0 hI.1 hI.2.1 k hk, Nat.reduceAdd, Nat.reduceMul, Nat.reduceSub, Nat.zero_add, Nat.add_zero, yp_LT, yp_nA, yp_nM, yp_ltF, yp_ltT, yp_leF, yp_leT, yp_eqF, eq_self, yp_eqM, lt1, yp_sbN, yp_sb2N, ↓reduceIte, ↓yp_iP11, ↓yp_iP12, ↓yp_m0P]
      all_goals ((repeat' split) <;> first | rfl | (simp_all [id]; done) | (simp_all [id, Nat.add_assoc]; done) | (simp_all [id] <;> rfl))
    · simp (disch := omega) only [fX11_lit_b4, hA, c3, Nat.reduceAdd, Nat.reduceMul, Nat.reduceSub, Nat.zero_add, Nat.add_zero, yp_LT, yp_nA, yp_nM, yp_ltF, yp_ltT, yp_leF, yp_leT, yp_eqF, eq_self, yp_eqM, lt1, yp_sbN, yp_sb2N, ↓reduceIte, ↓yp_iP11, ↓yp_iP12, ↓yp_m0P]
      rfl
    · simp only [id]
  · obtain ⟨m2, a1, a2, a3, a4, a5, a6⟩ := yp_take_MA hm
    refine ⟨m2, ?_, yp_FM.fs a6⟩
    have c4 := a3.2.2.1
    simp (disch := omega) only [fX12_lit_j43, fX12_lit_j35, fX12_lit, hM, yp_m0e, a1, Nat.reduceAdd, Nat.reduceMul, Nat.reduceSub, Nat.zero_add, Nat.add_zero, yp_LT, yp_nA, yp_nM, yp_ltF, yp_ltT, yp_leF, yp_leT, yp_eqF, eq_self, yp_eqM, lt1, yp_sbN, yp_sb2N, ↓reduceIte, ↓yp_iP11, ↓yp_iP12, ↓yp_m0P]
    refine Eq.trans (yp_lpB (fun k a => (a, yp_N k)) (fun p a => a + (if yp_fo (yp_apG (yp_sH A) (yp_N p)) 42 (yp_N 0) ≤ yp_N 0 then yp_N 0 else yp_N 1)) (id) (yp_qw (yp_sQ A)) (yp_N 0) (by rw [yp_FUe]; omega) rfl (fun k z hk hz => ?_) (fun z hz => ?_)) ?_
    · simp (disch := omega) only [fX12_lit_b13, fX12_lit_j35, hM, c4, yp_m_atp a2, Nat.reduceAdd, Nat.reduceMul, Nat.reduceSub, Nat.zero_add, Nat.add_zero, yp_LT, yp_nA, yp_nM, yp_ltF, yp_ltT, yp_leF, yp_leT, yp_eqF, eq_self, yp_eqM, lt1, yp_sbN, yp_sb2N, ↓reduceIte, ↓yp_iP11, ↓yp_iP12, ↓yp_m0P]
      all_goals ((repeat' split) <;> first | rfl | (simp_all [id]; done) | (simp_all [id, Nat.add_assoc]; done) | (simp_all [id] <;> rfl))
    · simp (disch := omega) only [fX12_lit_b13, hM, c4, Nat.reduceAdd, Nat.reduceMul, Nat.reduceSub, Nat.zero_add, Nat.add_zero, yp_LT, yp_nA, yp_nM, yp_ltF, yp_ltT, yp_leF, yp_leT, yp_eqF, eq_self, yp_eqM, lt1, yp_sbN, yp_sb2N, ↓reduceIte, ↓yp_iP11, ↓yp_iP12, ↓yp_m0P]
      rfl
    · simp only [id]
end ASK2

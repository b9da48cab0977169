section PWORK
variable {B : Nat} {mm : Mem} {A : yp_St}
def yp_wz0 : yp_WkT := (0, 0, fun _ => (0, 0, 0, 0, 0, 0))
set_option maxHeartbeats 1000000 in
theorem yp_p_work (hR : yp_RCc B mm A) (hI : yp_INV A) (x : Int32) : yp_PM B (fX11_work (yp_SH B) B x mm) (fun m => fX12_work (yp_SH B) (B + 517) x m) hcI mm A := by
  have hA := yp_clsS B
  have hP := yp_clsP B
  have hW := yp_wspS B
  have hM := yp_mS B
  have hU := yp_wmS B
  rcases yp_txtR hR hI x 150 (by omega) with ⟨k, k1, k2, rfl, s1⟩ | ⟨hb, s1⟩
  rotate_left
  · refine yp_PM_e1 hR hI (by simp (disch := omega) only [fX11_work, hA, s1, ↓yp_smLN, ↓yp_smRN, Nat.reduceAdd, Nat.reduceMul, Nat.reduceSub, Nat.zero_add, Nat.add_zero, yp_LT, yp_nA, yp_nM, yp_ltF, yp_ltT, yp_leF, yp_leT, yp_eqF, eq_self, yp_eqM, yp_lt1N, yp_sbN, yp_sb2N, ↓reduceIte, ↓yp_iP11, ↓yp_iP12, ↓yp_m0P]) (fun m hm => ?_) rfl yp_n1
    have e := (yp_m0R hm).2.2.2.2.2.1.1
    have ma : fX12_may (yp_SH B) (B + 517) 0 1 1 (yp_m0 B m) = some (yp_N 0, yp_XE B m 1 (yp_N 1)) := yp_may11 B m
    rcases hb with h | h | h
    · simp (disch := omega) only [↓yp_lt1N, fX12_work, fX12_work_j29, fX12_work_j30, hM, yp_m0e, h, ↓yp_bdP ma, yp_may11, Nat.reduceAdd, Nat.reduceMul, Nat.reduceSub, Nat.zero_add, Nat.add_zero, yp_LT, yp_nA, yp_nM, yp_ltF, yp_ltT, yp_leF, yp_leT, yp_eqF, eq_self, yp_eqM, yp_lt1N, yp_sbN, yp_sb2N, ↓reduceIte, ↓yp_iP11, ↓yp_iP12, ↓yp_m0P]
    · simp (disch := omega) only [↓yp_lt1N, fX12_work, fX12_work_j29, fX12_work_j30, hM, yp_m0e, e, h, ↓yp_bdP ma, yp_may11, Nat.reduceAdd, Nat.reduceMul, Nat.reduceSub, Nat.zero_add, Nat.add_zero, yp_LT, yp_nA, yp_nM, yp_ltF, yp_ltT, yp_leF, yp_leT, yp_eqF, eq_self, yp_eqM, yp_lt1N, yp_sbN, yp_sb2N, ↓reduceIte, ↓yp_iP11, ↓yp_iP12, ↓yp_m0P]
    · simp (disch := omega) only [↓yp_lt1N, fX12_work, fX12_work_j29, fX12_work_j30, hM, yp_m0e, e, h, ↓yp_bdP ma, yp_may11, Nat.reduceAdd, Nat.reduceMul, Nat.reduceSub, Nat.zero_add, Nat.add_zero, yp_LT, yp_nA, yp_nM, yp_ltF, yp_ltT, yp_leF, yp_leT, yp_eqF, eq_self, yp_eqM, yp_lt1N, yp_sbN, yp_sb2N, ↓reduceIte, ↓yp_iP11, ↓yp_iP12, ↓yp_m0P]
  have h6 := hI.2.2.2.2.2.1
  have hw := hI.2.2.1.1
  obtain ⟨o1, o2, o3, o4, o5⟩ := yp_opn_v B mm k
  have c0 := yp_opn_T hR hI k1
  have q39 : yp_opn B mm k (B + 39) 1 = yp_N (yp_sW A) := (yp_opn_n (by omega)).trans hR.2.2.1.1
  have eM := fun m (hm : yp_RMm B m A) => (yp_m0R hm).2.2.2.2.2.1.1
  have bgE := fun m => yp_m_begins B (yp_m0 B m) k
  have b31 : ∀ m, yp_RMm B m A → yp_beg B (yp_m0 B m) k (B + 517) 31 = yp_N (yp_sW A) := fun m hm => (yp_beg_n (by omega)).trans (yp_m0R hm).2.2.1.1
  by_cases h16 : yp_sW A < 16
  rotate_left
  · have q39' := q39
    rw [show yp_sW A = 16 by omega] at q39' b31
    refine yp_PM_x (A := A) (hI.tx (-yp_N 1)) (v := -yp_N 20) (m1 := yp_opn B mm k) ?_ (hR.tx hI (fun a j h1 h2 => yp_opn_n (by omega)) o1 o5) (fun a j ha => yp_opn_n (by omega)) (fun m hm => ?_)
    · simp (disch := omega) only [↓yp_lt1N, fX11_work, hA, hP, s1, ↓yp_smLN, ↓yp_smRN, q39', Nat.reduceAdd, Nat.reduceMul, Nat.reduceSub, Nat.zero_add, Nat.add_zero, yp_LT, yp_nA, yp_nM, yp_ltF, yp_ltT, yp_leF, yp_leT, yp_eqF, eq_self, yp_eqM, yp_lt1N, yp_sbN, yp_sb2N, ↓reduceIte, ↓yp_iP11, ↓yp_iP12, ↓yp_m0P]
    · obtain ⟨p1, p2, p3, p4, p5, p6⟩ := yp_beg_v B (yp_m0 B m) k
      have e1 := yp_m_res1 p4 (yp_N 0)
      refine ⟨up2 (yp_beg B (yp_m0 B m) k) (B + 517) 8 (-yp_N 1), ?_, hm.tx (fun a j h1 h2 => ?_) ?_ (yp_up2_s _ _ _ _), ?_, fun a j ha => ?_⟩
      · simp (disch := omega) only [↓yp_lt1N, fX12_work, fX12_work_j30, fX12_work_j29, hM, yp_m0e, eM m hm, yp_mayG, bgE, b31 m hm, e1, Nat.reduceAdd, Nat.reduceMul, Nat.reduceSub, Nat.zero_add, Nat.add_zero, yp_LT, yp_nA, yp_nM, yp_ltF, yp_ltT, yp_leF, yp_leT, yp_eqF, eq_self, yp_eqM, yp_lt1N, yp_sbN, yp_sb2N, ↓reduceIte, ↓yp_iP11, ↓yp_iP12, ↓yp_m0P]
      · rw [yp_up2_n _ _ (by omega), yp_beg_n (by unfold yp_KM at h1; omega), yp_m0_KM (.inl h1)]
      · rw [yp_up2_n _ _ (by omega)]; exact p1
      · rw [yp_up2_n _ _ (by omega), yp_beg_n (by omega), yp_m0t]
      · rw [yp_up2_n _ _ (by omega), yp_beg_n (by omega), yp_m0_KM (.inr ha)]
  obtain ⟨m1, hm1⟩ : ∃ m1, m1 = up2 (up2 (up2 (up2 (yp_opn B mm k) (B + 27) 8 (yp_N 0)) (B + 27) 9 (yp_N 0)) (B + 27) 10 (yp_N 0)) (B + 27) 11 (yp_N 0) := ⟨_, rfl⟩
  have G1 : ∀ a j, a ≠ B + 27 → m1 a j = yp_opn B mm k a j := fun a j h => by rw [hm1, yp_up2_n _ _ (by omega), yp_up2_n _ _ (by omega), yp_up2_n _ _ (by omega), yp_up2_n _ _ (by omega)]
  have z8 : m1 (B + 27) 8 = yp_N 0 := by rw [hm1, yp_up2_n _ _ (by omega), yp_up2_n _ _ (by omega), yp_up2_n _ _ (by omega), yp_up2_s]
  have z9 : m1 (B + 27) 9 = yp_N 0 := by rw [hm1, yp_up2_n _ _ (by omega), yp_up2_n _ _ (by omega), yp_up2_s]
  have z10 : m1 (B + 27) 10 = yp_N 0 := by rw [hm1, yp_up2_n _ _ (by omega), yp_up2_s]
  have z11 : m1 (B + 27) 11 = yp_N 0 := by rw [hm1, yp_up2_s]
  have l1 : yp_WC B m1 (yp_tb A) k (yp_qf (yp_sQ A)) (yp_qg (yp_sQ A)) yp_wz0 := ⟨c0.fr (fun a j q => G1 a j (by omega)), by unfold yp_FL; rw [G1 _ _ (by omega), G1 _ _ (by omega), o4, o5], z8, Nat.le_refl 0, (G1 _ _ (by omega)).trans ((yp_opn_n (by omega)).trans hR.1.1), (G1 _ _ (by omega)).trans ((yp_opn_n (by omega)).trans hR.1.2.1)⟩
  obtain ⟨r, a1, a2, a3, a4, a5⟩ := yp_K_top (B := B) (t := yp_tb A) (n := k) k2 hI.1.1 hI.1.2.1 yp_wz0 (Nat.zero_le k) (Nat.le_refl 0)
  obtain ⟨m2, yp_b1, b2, b3, b4⟩ := a4 m1 l1
  have yp_b1 : fX10_readSteps (yp_SH B) DP (B + 27) (yp_N 0) m1 = some (if r.1.1 = 0 then yp_N 1 else yp_N 0, m2) := yp_b1
  have F2 : ∀ a j, yp_KC B a j ∨ B + 517 ≤ a → a ≠ B + 1 → m2 a j = mm a j := fun a j h1 h2 => by
    rw [b2 a j (by unfold yp_KC at h1; unfold yp_TWc; omega), G1 a j (by unfold yp_KC at h1; omega), yp_opn_n (by omega)]
  have t2 : m2 (B + 1) 1 = yp_N 0 := by rw [b2 _ _ (by unfold yp_TWc; omega), G1 _ _ (by omega), o1]
  have goM : ∀ m, yp_RMm B m A → ∃ mb mc, mb = up2 (yp_beg B (yp_m0 B m) k) (B + 517) 30 (yp_N 0) ∧ loopN (fun st : Mem => fX12_work_b68 (yp_SH B) (B + 517) st) FU mb = some mc ∧ yp_RS B mc r.1 ∧ (r.1.1 = 0 → yp_WM B mc (yp_tb A) k (yp_qf (yp_sQ A)) (yp_qg (yp_sQ A)) r.2 0 ∧ ∀ i, yp_wz0.2.1 ≤ i → i < r.2.2.1 → yp_rowM B mc i (r.2.2.2 i)) ∧ (∀ a j, yp_KM B a j ∨ a < B + 517 ∨ B + 542 ≤ a → ¬ (a = B + 517 ∧ (j = 2 ∨ j = 8)) → mc a j = m a j) ∧ mc (B + 517) 0 = yp_N 0 ∧ mc (B + 517) 2 = yp_N 0 := fun m hm => by
    have hm0 := yp_m0R hm
    obtain ⟨p1, p2, p3, p4, p5, p6⟩ := yp_beg_v B (yp_m0 B m) k
    obtain ⟨mb, hmb⟩ : ∃ mb, mb = up2 (yp_beg B (yp_m0 B m) k) (B + 517) 30 (yp_N 0) := ⟨_, rfl⟩
    have G : ∀ a j, ¬ (a = B + 517 ∧ j = 30) → mb a j = yp_beg B (yp_m0 B m) k a j := fun a j q => by rw [hmb, yp_up2_n _ _ (by omega)]
    have l2 : yp_WM B mb (yp_tb A) k (yp_qf (yp_sQ A)) (yp_qg (yp_sQ A)) yp_wz0 0 := ⟨(yp_beg_T hm0 hI k1).fr (fun a j q => G a j (by omega)), (G _ _ (by omega)).trans p4, by rw [hmb, yp_up2_s]; rfl, Nat.le_refl 0, ⟨(G _ _ (by omega)).trans ((yp_beg_n (by omega)).trans hm0.1.1), (G _ _ (by omega)).trans ((yp_beg_n (by omega)).trans hm0.1.2.1)⟩, (G _ _ (by omega)).trans p5⟩
    obtain ⟨mc, q1, q2, q3, q4⟩ := a5 mb l2
    refine ⟨mb, mc, hmb, q1, q3, q4, fun a j h1 h2 => ?_, ?_, ?_⟩
    · rw [q2 a j (by unfold yp_KM at h1; unfold yp_TWm; omega), G a j (by unfold yp_KM at h1; omega), yp_beg_n (by unfold yp_KM at h1; omega), yp_m0_KM h1]
    · rw [q2 _ _ (by unfold yp_TWm; omega), G _ _ (by omega), yp_beg_n (by omega), yp_m0t]
    · rw [q2 _ _ (by unfold yp_TWm; omega), G _ _ (by omega), p1]
  have l16 : (yp_sW A = 16) = False := by simp only [eq_iff_iff, iff_false]; omega
  by_cases y0 : r.1.1 = 0
  rotate_left
  · rw [if_neg y0] at yp_b1
    rw [yp_FLk_1 y0] at b3
    have u1 : m2 (B + 1) 4 = yp_N r.1.1 := congrArg Prod.fst b3
    have u2 : m2 (B + 1) 5 = yp_N r.1.2 := congrArg Prod.snd b3
    refine yp_PM_f hR hI (k := r.1.1) (x := r.1.2) (m1 := m2) ?_ F2 t2 u2 (fun m hm => ?_)
    · simp (disch := omega) only [↓yp_lt1N, fX11_work, fX10_read, hA, hP, hW, s1, ↓yp_smLN, ↓yp_smRN, q39, ← hm1, yp_b1, yp_ck0, u1, Nat.reduceAdd, Nat.reduceMul, Nat.reduceSub, Nat.zero_add, Nat.add_zero, yp_LT, yp_nA, yp_nM, yp_ltF, yp_ltT, yp_leF, yp_leT, yp_eqF, eq_self, yp_eqM, yp_lt1N, yp_sbN, yp_sb2N, ↓reduceIte, ↓yp_iP11, ↓yp_iP12, ↓yp_m0P]
    · obtain ⟨mb, mc, hmb, q1, q3, q4, q5, q6, q7⟩ := goM m hm
      rcases q3.2 with q | ⟨_, q8, q9⟩
      · exact absurd q.1 y0
      · have hx := q3.1.2
        have e1 := yp_m_res0 (by omega) q8 q9 (yp_N 0)
        have e2 : up2 mc (B + 517) 8 (yp_N r.1.2) (B + 517) 5 = yp_N r.1.2 := by rw [yp_up2_n _ _ (by omega)]; exact q8
        have e3 : (yp_N r.1.2 = -yp_N 1) = False := yp_eqM (by omega)
        refine ⟨up2 mc (B + 517) 8 (yp_N r.1.2), ?_, fun a j h1 h2 => ?_, ?_, ?_, yp_up2_s _ _ _ _⟩
        · simp (disch := omega) only [↓yp_lt1N, fX12_work, fX12_work_j30, fX12_work_j29, fX12_work_j89, hM, yp_m0e, eM m hm, yp_mayG, bgE, b31 m hm, ← hmb, q1, e1, e2, e3, Nat.reduceAdd, Nat.reduceMul, Nat.reduceSub, Nat.zero_add, Nat.add_zero, yp_LT, yp_nA, yp_nM, yp_ltF, yp_ltT, yp_leF, yp_leT, yp_eqF, eq_self, yp_eqM, yp_lt1N, yp_sbN, yp_sb2N, ↓reduceIte, ↓yp_iP11, ↓yp_iP12, ↓yp_m0P]
        · rw [yp_up2_n _ _ (by omega)]; exact q5 a j h1 h2
        · rw [yp_up2_n _ _ (by omega)]; exact q6
        · rw [yp_up2_n _ _ (by omega)]; exact q7
  rw [if_pos y0] at yp_b1
  obtain ⟨lc, lr⟩ := b4 y0
  obtain ⟨w1, w2, w3, w4, w5, w6⟩ := (a3 y0).1
  have w4 : 4 * r.2.2.1 + 0 ≤ r.2.1 + 4 * 0 := w4
  have u2 : m2 (B + 1) 5 = -yp_N 1 := congrArg Prod.snd lc.2.1
  have R2 : yp_RCc B m2 (yp_txA A (-yp_N 1)) := hR.tx hI (fun a j h1 h2 => F2 a j (.inl h1) h2) t2 u2
  have z27 : ∀ j, j ≠ 8 → m2 (B + 27) j = m1 (B + 27) j := fun j h => b2 _ j (by unfold yp_TWc; omega)
  obtain ⟨s', d1, ⟨ma, mb, d2, d3, d4, d5, d6, d7, d8⟩, d9⟩ := yp_wdo R2 (hI.tx (-yp_N 1)) (len := r.2.2.1) (R := r.2.2.2) h16 (by omega) w6 (fun i hi => lr i (Nat.zero_le i) hi) lc.2.2.1 ((z27 9 (by omega)).trans z9) ((z27 10 (by omega)).trans z10) ((z27 11 (by omega)).trans z11)
  have dd : up2 mb B 13 (yp_N s'.2.2.2) (B + 27) 10 = yp_N s'.2.2.1 := by rw [yp_up2_n _ _ (by omega)]; exact d5
  refine yp_PM_x (A := A) ((hI.tx (-yp_N 1)).wk d1 h16 _) (v := yp_N s'.2.2.1) ?_ d7 (fun a j ha => ?_) (fun m hm => ?_)
  · simp (disch := omega) only [↓yp_lt1N, fX11_work, fX10_read, hA, hP, hW, s1, ↓yp_smLN, ↓yp_smRN, q39, ← hm1, yp_b1, yp_ck1, d2, d3, d4, d6, dd, Nat.reduceAdd, Nat.reduceMul, Nat.reduceSub, Nat.zero_add, Nat.add_zero, yp_LT, yp_nA, yp_nM, yp_ltF, yp_ltT, yp_leF, yp_leT, yp_eqF, eq_self, yp_eqM, yp_lt1N, yp_sbN, yp_sb2N, ↓reduceIte, ↓yp_iP11, ↓yp_iP12, ↓yp_m0P]
  · rw [yp_up2_n _ _ (by omega), d8 a j ha, F2 a j (.inr ha) (by omega)]
  · obtain ⟨mc, md, hmc, q1, q3, q4, q5, q6, q7⟩ := goM m hm
    obtain ⟨lm, lrm⟩ := q4 y0
    have e1 := yp_m_res1 lm.2.1 (yp_N 0)
    obtain ⟨me, hme⟩ : ∃ me, me = up2 md (B + 517) 8 (-yp_N 1) := ⟨_, rfl⟩
    rw [← hme] at e1
    have Ge : ∀ a j, ¬ (a = B + 517 ∧ j = 8) → me a j = md a j := fun a j q => by rw [hme, yp_up2_n _ _ (by omega)]
    have e2 : me (B + 517) 5 = -yp_N 1 := (Ge _ _ (by omega)).trans lm.2.1
    have e3 : me (B + 517) 30 = yp_N (4 * r.2.2.1) := (Ge _ _ (by omega)).trans lm.2.2.1
    obtain ⟨mf, mg, mh, f1, f2, f3, f4, f5, f6⟩ := d9 me (hm.tx (fun a j h1 h2 => (Ge a j (by omega)).trans (q5 a j (.inl h1) h2)) ((Ge _ _ (by omega)).trans q7) (by rw [hme, yp_up2_s])) (fun i hi => (lrm i (Nat.zero_le i) hi).fr (fun j _ _ => Ge _ j (by omega))) e3 ((Ge _ _ (by omega)).trans q6)
    refine ⟨mh, ?_, f4, f5, fun a j ha => (f6 a j ha).trans ((Ge a j (by omega)).trans (q5 a j (.inr ha) (by omega)))⟩
    simp (disch := omega) only [↓yp_lt1N, fX12_work, fX12_work_j30, fX12_work_j29, fX12_work_j89, hM, hU, yp_m0e, eM m hm, yp_mayG, bgE, b31 m hm, ← hmc, q1, e1, e2, e3, f1, f2, f3, Nat.reduceAdd, Nat.reduceMul, Nat.reduceSub, Nat.zero_add, Nat.add_zero, yp_LT, yp_nA, yp_nM, yp_ltF, yp_ltT, yp_leF, yp_leT, yp_eqF, eq_self, yp_eqM, yp_lt1N, yp_sbN, yp_sb2N, ↓reduceIte, ↓yp_iP11, ↓yp_iP12, ↓yp_m0P]
end PWORK

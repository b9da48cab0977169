section AGAINM
variable {B : Nat} {t : Nat → Nat} {n nf ng : Nat}
set_option maxHeartbeats 1000000 in
theorem yp_w36_len {p : Nat} (hp : p ≤ n) (h : yp_widx yp_C3 (yp_wC t n p) = 6) : yp_wE t n p = yp_sk t n p + 5 := by
  have hv := yp_widx_get yp_C3 6 h (by decide)
  have q := ((yp_wm_code (t := t) yp_ws3 hp 6 (by decide)).mpr hv).1
  have q : yp_wE t n p - yp_sk t n p = 5 := q
  have := yp_wE_ge t n p
  omega
set_option maxHeartbeats 1000000 in
theorem yp_Fr_7w {m : Mem} {l : Nat} (v : Int32) : yp_Fr (yp_TWm B l) m (up2 m (B + 517) 7 v) := fun a j q => yp_up2_n _ _ (by unfold yp_TWm at q; omega)
set_option maxHeartbeats 1000000 in
theorem yp_m_again {S : yp_WkT → Option yp_WkR} {Sm : Nat → Mem → Option Mem} {fc : Mem → Option (Int32 × Mem)} {o : Nat} {z : yp_WkT} (hn : n ≤ 150) (h1 : z.1 ≤ n) (h4 : 4 * z.2.1 ≤ z.1) (ho : o ≤ 5) (hw : yp_widx yp_C3 (yp_wC t n z.1) = 6) (hS0 : ∀ x, yp_KSs B t n nf ng (o + 1) S fc (fun m => loopN (fun st : Mem => fX12_readAgain_b33 (yp_SH B) Sm (B + 517) x st) FU m)) (r' : yp_WkR) (hr : yp_agW t n o S z = some r') : yp_KWm B t n nf ng o z r' (fun m => fX12_readStep_o (yp_SH B) Sm (B + 517) m) := by
  intro m hm
  have hM := yp_mS B
  have hS := yp_wmS B
  have hs := yp_sk_ge t n z.1
  have hs2 := yp_sk_le (t := t) h1
  have hw3 := yp_w3_len (t := t) h1 (by rw [hw]; omega)
  have hw2 := yp_wE_le (t := t) h1
  have hn6 : n ≤ 600 := by omega
  have so : yp_N (o + 1) - yp_N 1 = yp_N o := by rw [yp_nS (by omega)]; rfl
  have e0 := yp_m_word hm.1
  have e1 := yp_stepOf1 (v := yp_wC t n z.1) (by rw [hw]; omega)
  rw [hw] at e1
  have q := hm.1.at hs2
  have e2 := yp_m_openA (B := B) (m := yp_rAt B m (yp_sk t n z.1)) (p := yp_sk t n z.1) (o := o) ((yp_rAt_n _ (by omega)).trans hm.2.1) q.1.2.1 ((yp_rAt_n _ (by omega)).trans hm.2.2.2.2.2) ho 5
  rw [← yp_w36_len h1 hw, yp_rAt2] at e2
  obtain ⟨m9, hm9⟩ : ∃ m9, m9 = up2 (yp_rAt B m (yp_wE t n z.1)) (B + 517) 7 (yp_N (o + 1)) := ⟨_, rfl⟩
  rw [← hm9] at e2
  have G9 : ∀ a j, ¬ (a = B + 517 ∧ (j = 4 ∨ j = 7)) → m9 a j = m a j := fun a j q => by rw [hm9, yp_up2_n _ _ (by omega), yp_rAt_n _ (by omega)]
  have t9 : yp_RT B m9 t n (yp_wE t n z.1) := (hm.1.at hw2).fr (fun a j q => by rw [hm9, yp_up2_n _ _ (by omega)])
  have f9 : m9 (B + 517) 5 = -yp_N 1 := (G9 _ _ (by omega)).trans hm.2.1
  obtain ⟨v10, m11, a1, a2, a3, a4⟩ := yp_r_num (a := (0, 0)) (m := m9) (t := t) (n := n) (p := yp_wE t n z.1) ⟨⟨Nat.zero_le 3, Nat.zero_le 600⟩, .inl ⟨rfl, f9⟩⟩ (fun _ => t9) hw2 hn6 0 41 (yp_N 40) (by rw [yp_tiN (by omega)]; omega) (by omega) (by omega)
  rw [yp_fa1 _ rfl] at a3 a4
  have a1' : fX12_readNumber (yp_SH B) (B + 517) 0 40 m9 = some (v10, m11) := a1
  obtain ⟨m13, d1, d2, d3, d4⟩ := yp_r_sg (m := m11) (t := t) (n := n) (p := yp_nE t n (yp_wE t n z.1)) a3 (fun k => (a4 k).1) (yp_nE_le (t := t) hw2) hn6 91 (by omega) (by omega)
  have d1' : fX12_sign (yp_SH B) (B + 517) 91 m11 = some m13 := d1
  have G13 : ∀ a j, ¬ (a = B + 517 ∧ (j = 4 ∨ j = 5 ∨ j = 6)) → m13 a j = m9 a j := fun a j q => by rw [d2 a j (by unfold yp_T46; omega), a2 a j (by unfold yp_T46; omega)]
  have F13 : yp_Fr (yp_TWm B z.2.1) m m13 := fun a j q => by
    unfold yp_TWm at q
    rw [G13 a j (by omega), G9 a j (by omega)]
  have c30 : m13 (B + 517) 30 = yp_N (4 * z.2.1) := by rw [G13 _ _ (by omega), G9 _ _ (by omega)]; exact hm.2.2.1
  have c7 : m13 (B + 517) 7 = yp_N (o + 1) := by rw [G13 _ _ (by omega), hm9, yp_up2_s]
  have r30 : rI (yp_SH B) m13 12 (B + 517) 30 = some (yp_N (4 * z.2.1)) := by rw [hM.2.2.1, c30]
  have d3 : yp_RS B m13 (yp_agF t n (yp_wE t n z.1)) := d3
  have d4 : (yp_agF t n (yp_wE t n z.1)).1 = 0 → yp_RT B m13 t n (yp_sk t n (yp_nE t n (yp_wE t n z.1)) + 1) := d4
  unfold yp_agW at hr
  by_cases kf : (yp_agF t n (yp_wE t n z.1)).1 = 0
  rotate_left
  · rw [if_neg kf] at hr
    obtain rfl : (yp_agF t n (yp_wE t n z.1), z) = r' := Option.some.inj hr
    have nf := d3.bad kf
    have x1n := yp_m_tell0 nf (yp_N 6) v10 (yp_N 0) (yp_N 0)
    have x1 : fX12_tellsStep (yp_SH B) (B + 517) 6 v10 0 0 m13 = some m13 := x1n
    have f0 := yp_m_fine0 nf
    have x2 : loopN (fun st : Mem => fX12_readAgain_b33 (yp_SH B) Sm (B + 517) (yp_N (4 * z.2.1)) st) FU m13 = some m13 := yp_lpXx (by simp (disch := omega) only [fX12_readAgain_b33, f0, Nat.reduceAdd, Nat.reduceMul, Nat.reduceSub, Nat.zero_add, Nat.add_zero, yp_LT, yp_nA, yp_nM, yp_ltF, yp_ltT, yp_leF, yp_leT, yp_eqF, eq_self, yp_eqM, yp_lt1N, yp_sbN, yp_sb2N, ↓reduceIte, ↓yp_iP11, ↓yp_iP12, ↓yp_m0P])
    have x3 := yp_m_signX nf (yp_N 93)
    obtain ⟨m17, hm17⟩ : ∃ m17, m17 = up2 m13 (B + 517) 7 (yp_N o) := ⟨_, rfl⟩
    have nf2 : ¬ m17 (B + 517) 5 = -yp_N 1 := by rw [hm17, yp_up2_n _ _ (by omega)]; exact nf
    have f1 := yp_m_fine0 nf2
    have x4 := yp_m_signX nf2 (yp_N 59)
    have ag : fX12_readAgain_o (yp_SH B) Sm (B + 517) (yp_rAt B m (yp_sk t n z.1)) = some m17 := by
      simp (disch := omega) only [↓yp_lt1N, fX12_readAgain_o, fX12_readAgain_j56, fX12_readAgain_j91, hM, e2, ↓yp_bdP a1', a1, d1, ↓yp_opP r30, c30, ↓yp_opP x1, x1n, x2, x3, c7, so, ← hm17, f1, Nat.reduceAdd, Nat.reduceMul, Nat.reduceSub, Nat.zero_add, Nat.add_zero, yp_LT, yp_nA, yp_nM, yp_ltF, yp_ltT, yp_leF, yp_leT, yp_eqF, eq_self, yp_eqM, yp_lt1N, yp_sbN, yp_sb2N, ↓reduceIte, ↓yp_iP11, ↓yp_iP12, ↓yp_m0P]
    refine ⟨m17, ?_, F13.tr (by rw [hm17]; exact yp_Fr_7w _), d3.fr (fun j q => by rw [hm17, yp_up2_n _ _ (by omega)]), fun q => absurd q kf⟩
    simp (disch := omega) only [↓yp_lt1N, fX12_readStep_o, fX12_readStep_j151, ↓yp_bdP e0, ↓yp_opP e1, ↓yp_opP ag, x4, Nat.reduceAdd, Nat.reduceMul, Nat.reduceSub, Nat.zero_add, Nat.add_zero, yp_LT, yp_nA, yp_nM, yp_ltF, yp_ltT, yp_leF, yp_leT, yp_eqF, eq_self, yp_eqM, yp_lt1N, yp_sbN, yp_sb2N, ↓reduceIte, ↓yp_iP11, ↓yp_iP12, ↓yp_m0P]
  rw [if_pos kf] at hr
  obtain ⟨kn, kg, _⟩ := yp_fa0 kf
  have v10e := (a4 kn).2
  have hz := yp_agZ_le (t := t) (o := o) h4 (show z.1 + 3 ≤ yp_wE t n z.1 by omega) kf
  have x1 := yp_m_tell1 (d3.fine kf) c30 (by omega) (yp_N 6) v10 (yp_N 0) (yp_N 0)
  obtain ⟨m16, hm16⟩ : ∃ m16, m16 = yp_tel B m13 (4 * z.2.1) (yp_N 6) v10 (yp_N 0) (yp_N 0) := ⟨_, rfl⟩
  rw [← hm16] at x1
  have x1' : fX12_tellsStep (yp_SH B) (B + 517) 6 v10 0 0 m13 = some m16 := x1
  have G16 : ∀ b j, ¬ (b = B + 517 ∧ j = 30) → ¬ (b = B + 530 ∧ 4 * z.2.1 ≤ j) → m16 b j = m13 b j := fun b j g1 g2 => by rw [hm16, yp_tel_n g1 (by omega)]
  have tv := yp_tel_v B m13 (4 * z.2.1) (yp_N 6) v10 (yp_N 0) (yp_N 0)
  rw [← hm16] at tv
  have F16 : yp_Fr (yp_TWm B z.2.1) m m16 := F13.tr (fun b j q => G16 b j (by unfold yp_TWm at q; omega) (by unfold yp_TWm at q; omega))
  have wz : yp_WM B m16 t n nf ng (yp_agZ t n o (yp_wE t n z.1) z) (o + 1) := ⟨(d4 kf).fr (fun b j q => G16 b j (by omega) (by omega)), (G16 _ _ (by omega) (by omega)).trans (d3.fine kf), by rw [tv.2.2.2.2]; exact congrArg yp_N (by show 4 * z.2.1 + 4 = 4 * (z.2.1 + 1); omega), hz.2.1, ⟨by rw [F16 _ _ (by unfold yp_TWm; omega)]; exact hm.2.2.2.2.1.1, by rw [F16 _ _ (by unfold yp_TWm; omega)]; exact hm.2.2.2.2.1.2⟩, (G16 _ _ (by omega) (by omega)).trans c7⟩
  obtain ⟨r, s1, s2, s3, s4, s5⟩ := hS0 (yp_N (4 * z.2.1)) (yp_agZ t n o (yp_wE t n z.1) z) hz.1 hz.2.1
  rw [s1] at hr
  obtain ⟨m17, i1, i2, i3, i4⟩ := s5 m16 wz
  have i1 : loopN (fun st : Mem => fX12_readAgain_b33 (yp_SH B) Sm (B + 517) (yp_N (4 * z.2.1)) st) FU m16 = some m17 := i1
  have i2 : yp_Fr (yp_TWm B (z.2.1 + 1)) m16 m17 := i2
  have F17 : yp_Fr (yp_TWm B z.2.1) m m17 := F16.tr (yp_TWm_le i2 (by omega))
  by_cases k3 : r.1.1 = 0
  rotate_left
  · have hr : some r = some r' := (if_neg k3).symm.trans hr
    obtain rfl : r = r' := Option.some.inj hr
    have nf := i3.bad k3
    have x3 := yp_m_signX nf (yp_N 93)
    obtain ⟨m18, hm18⟩ : ∃ m18, m18 = up2 m17 (B + 517) 7 (m17 (B + 517) 7 - yp_N 1) := ⟨_, rfl⟩
    have nf2 : ¬ m18 (B + 517) 5 = -yp_N 1 := by rw [hm18, yp_up2_n _ _ (by omega)]; exact nf
    have f1 := yp_m_fine0 nf2
    have x4 := yp_m_signX nf2 (yp_N 59)
    have ag : fX12_readAgain_o (yp_SH B) Sm (B + 517) (yp_rAt B m (yp_sk t n z.1)) = some m18 := by
      simp (disch := omega) only [↓yp_lt1N, fX12_readAgain_o, fX12_readAgain_j56, fX12_readAgain_j91, hM, e2, ↓yp_bdP a1', a1, d1, ↓yp_opP r30, c30, ↓yp_opP x1', x1, i1, x3, ← hm18, f1, Nat.reduceAdd, Nat.reduceMul, Nat.reduceSub, Nat.zero_add, Nat.add_zero, yp_LT, yp_nA, yp_nM, yp_ltF, yp_ltT, yp_leF, yp_leT, yp_eqF, eq_self, yp_eqM, yp_lt1N, yp_sbN, yp_sb2N, ↓reduceIte, ↓yp_iP11, ↓yp_iP12, ↓yp_m0P]
    refine ⟨m18, ?_, F17.tr (by rw [hm18]; exact yp_Fr_7w _), i3.fr (fun j q => by rw [hm18, yp_up2_n _ _ (by omega)]), fun q => absurd q k3⟩
    simp (disch := omega) only [↓yp_lt1N, fX12_readStep_o, fX12_readStep_j151, ↓yp_bdP e0, ↓yp_opP e1, ↓yp_opP ag, x4, Nat.reduceAdd, Nat.reduceMul, Nat.reduceSub, Nat.zero_add, Nat.add_zero, yp_LT, yp_nA, yp_nM, yp_ltF, yp_ltT, yp_leF, yp_leT, yp_eqF, eq_self, yp_eqM, yp_lt1N, yp_sbN, yp_sb2N, ↓reduceIte, ↓yp_iP11, ↓yp_iP12, ↓yp_m0P]
  · have hr : some (yp_agE t n o (yp_wE t n z.1) z r) = some r' := (if_pos k3).symm.trans hr
    obtain rfl : yp_agE t n o (yp_wE t n z.1) z r = r' := Option.some.inj hr
    obtain ⟨wr, rr⟩ := i4 k3
    obtain ⟨pw, ps, pk'⟩ := s3 k3
    have ps : yp_sgk t n r.2.1 93 = 0 := by
      unfold yp_stp at ps
      rw [if_neg (by omega)] at ps
      exact ps
    have rle := pw.2.1
    have p4 : 4 * r.2.2.1 + (yp_agZ t n o (yp_wE t n z.1) z).1 ≤ r.2.1 + 4 * (z.2.1 + 1) := pw.2.2.2.1
    have p3 : z.2.1 + 1 ≤ r.2.2.1 := pw.2.2.1
    obtain ⟨m18, l1, l2, l3, l4⟩ := yp_r_sg (a := (0, 0)) (m := m17) (t := t) (n := n) (p := r.2.1) ⟨⟨Nat.zero_le 3, Nat.zero_le 600⟩, .inl ⟨rfl, wr.2.1⟩⟩ (fun _ => wr.1) rle hn6 93 (by omega) (by omega)
    rw [yp_fa1 _ rfl] at l3 l4
    have l5 : yp_RT B m18 t n (r.2.1 + 1) := by
      have := l4 ps
      rw [pk'] at this
      exact this
    have G18 : ∀ a j, ¬ (a = B + 517 ∧ (j = 4 ∨ j = 5 ∨ j = 6)) → m18 a j = m17 a j := fun a j q => l2 a j (by unfold yp_T46; omega)
    have c7' : m18 (B + 517) 7 = yp_N (o + 1) := (G18 _ _ (by omega)).trans wr.2.2.2.2.2
    obtain ⟨m19, hm19⟩ : ∃ m19, m19 = up2 m18 (B + 517) 7 (yp_N o) := ⟨_, rfl⟩
    have G19 : ∀ a j, ¬ (a = B + 517 ∧ j = 7) → m19 a j = m18 a j := fun a j q => by rw [hm19, yp_up2_n _ _ (by omega)]
    have f19 := yp_m_fine1 (B := B) (m := m19) ((G19 _ _ (by omega)).trans (l3.fine ps))
    have c30' : m19 (B + 517) 30 = yp_N (4 * r.2.2.1) := by rw [G19 _ _ (by omega), G18 _ _ (by omega)]; exact wr.2.2.1
    obtain ⟨m20, hm20⟩ : ∃ m20, m20 = up2 m19 (B + 530) (4 * z.2.1 + 2) (yp_N (4 * r.2.2.1)) := ⟨_, rfl⟩
    have G20 : ∀ a j, ¬ (a = B + 530 ∧ j = 4 * z.2.1 + 2) → m20 a j = m19 a j := fun a j q => by rw [hm20, yp_up2_n _ _ (by omega)]
    have ag : fX12_readAgain_o (yp_SH B) Sm (B + 517) (yp_rAt B m (yp_sk t n z.1)) = some m20 := by
      simp (disch := omega) only [↓yp_lt1N, fX12_readAgain_o, fX12_readAgain_j56, fX12_readAgain_j91, hM, hS, e2, ↓yp_bdP a1', a1, d1, ↓yp_opP r30, c30, ↓yp_opP x1', x1, i1, l1, c7', so, ← hm19, f19, c30', ← hm20, Nat.reduceAdd, Nat.reduceMul, Nat.reduceSub, Nat.zero_add, Nat.add_zero, yp_LT, yp_nA, yp_nM, yp_ltF, yp_ltT, yp_leF, yp_leT, yp_eqF, eq_self, yp_eqM, yp_lt1N, yp_sbN, yp_sb2N, ↓reduceIte, ↓yp_iP11, ↓yp_iP12, ↓yp_m0P]
    have hk := yp_sk_ge t n (r.2.1 + 1)
    obtain ⟨m21, y1, y2, y3, y4⟩ := yp_r_sg (a := (0, 0)) (m := m20) (t := t) (n := n) (p := r.2.1 + 1) ⟨⟨Nat.zero_le 3, Nat.zero_le 600⟩, .inl ⟨rfl, by rw [G20 _ _ (by omega), G19 _ _ (by omega)]; exact l3.fine ps⟩⟩ (fun _ => l5.fr (fun a j q => (G20 a j (by omega)).trans (G19 a j (by omega)))) (by have := l5.2.2.1; exact this) hn6 59 (by omega) (by omega)
    rw [yp_fa1 _ rfl] at y3 y4
    have G21 : ∀ a j, ¬ (a = B + 517 ∧ (j = 4 ∨ j = 5 ∨ j = 6)) → m21 a j = m20 a j := fun a j q => y2 a j (by unfold yp_T46; omega)
    have F21 : yp_Fr (yp_TWm B z.2.1) m m21 := F17.tr (fun a j q => by
      unfold yp_TWm at q
      rw [G21 a j (by omega), G20 a j (by omega), G19 a j (by omega), G18 a j (by omega)])
    refine ⟨m21, ?_, F21, y3, fun kk => ?_⟩
    · simp (disch := omega) only [↓yp_lt1N, fX12_readStep_o, fX12_readStep_j151, ↓yp_bdP e0, ↓yp_opP e1, ↓yp_opP ag, y1, Nat.reduceAdd, Nat.reduceMul, Nat.reduceSub, Nat.zero_add, Nat.add_zero, yp_LT, yp_nA, yp_nM, yp_ltF, yp_ltT, yp_leF, yp_leT, yp_eqF, eq_self, yp_eqM, yp_lt1N, yp_sbN, yp_sb2N, ↓reduceIte, ↓yp_iP11, ↓yp_iP12, ↓yp_m0P]
    · have k5 : yp_sgk t n (r.2.1 + 1) 59 = 0 := kk
      have ap := yp_agP (nf := nf) (ng := ng) h4 (show z.1 + 3 ≤ yp_wE t n z.1 by omega) ho kf pw k5
      refine ⟨⟨y4 k5, y3.fine k5, ?_, ?_, ⟨?_, ?_⟩, ?_⟩, fun k k1 k2 => ?_⟩
      · rw [G21 _ _ (by omega), G20 _ _ (by omega)]; exact c30'
      · have : 4 * r.2.2.1 + z.1 ≤ (yp_agE t n o (yp_wE t n z.1) z r).2.1 + 4 * z.2.1 := ap.1.2.2.2.1
        show 4 * r.2.2.1 ≤ (yp_agE t n o (yp_wE t n z.1) z r).2.1
        omega
      · rw [F21 _ _ (by unfold yp_TWm; omega)]; exact hm.2.2.2.2.1.1
      · rw [F21 _ _ (by unfold yp_TWm; omega)]; exact hm.2.2.2.2.1.2
      · rw [G21 _ _ (by omega), G20 _ _ (by omega), hm19, yp_up2_s]
      · have k2 : k < r.2.2.1 := k2
        by_cases ek : k = z.2.1
        · subst ek
          have ee : (yp_agE t n o (yp_wE t n z.1) z r).2.2.2 z.2.1 = (6, yp_nV t n (yp_wE t n z.1), 0, 0, r.2.2.1, o) := if_pos rfl
          rw [ee]
          have pr : ∀ j, 4 * z.2.1 ≤ j → j < 4 * z.2.1 + 4 → j ≠ 4 * z.2.1 + 2 → m21 (B + 530) j = m16 (B + 530) j := fun j j1 j2 j3 => by
            rw [G21 _ _ (by omega), G20 _ _ (by omega), G19 _ _ (by omega), G18 _ _ (by omega), i2 _ _ (by unfold yp_TWm; omega)]
          refine ⟨?_, ?_, ?_, ?_⟩
          · rw [pr _ (by omega) (by omega) (by omega), tv.1]
          · rw [pr _ (by omega) (by omega) (by omega), tv.2.1, v10e]
          · rw [G21 _ _ (by omega), hm20, yp_up2_s]; rfl
          · rw [pr _ (by omega) (by omega) (by omega), tv.2.2.2.1]
        · have ee : (yp_agE t n o (yp_wE t n z.1) z r).2.2.2 k = r.2.2.2 k := if_neg ek
          rw [ee]
          exact (rr k (by show z.2.1 + 1 ≤ k; omega) k2).fr (fun j j1 j2 => by rw [G21 _ _ (by omega), G20 _ _ (by omega), G19 _ _ (by omega), G18 _ _ (by omega)])
def yp_stepW (t : Nat → Nat) (n nf ng o d : Nat) (S : yp_WkT → Option yp_WkR) (z : yp_WkT) : Option yp_WkR :=
  if yp_widx yp_C3 (yp_wC t n z.1) = 7 then some ((1, yp_sk t n z.1), z)
  else if yp_widx yp_C3 (yp_wC t n z.1) = 6 then (if d = 0 then some ((3, yp_sk t n z.1), z) else yp_agW t n o S z)
  else some (yp_fa (yp_spN t n nf ng (yp_widx yp_C3 (yp_wC t n z.1)) (yp_wE t n z.1)).1 (yp_sgk t n (yp_spN t n nf ng (yp_widx yp_C3 (yp_wC t n z.1)) (yp_wE t n z.1)).2.1 59, yp_sk t n (yp_spN t n nf ng (yp_widx yp_C3 (yp_wC t n z.1)) (yp_wE t n z.1)).2.1), yp_psh (yp_spR t n nf ng (yp_widx yp_C3 (yp_wC t n z.1)) (yp_wE t n z.1) o) z (yp_sk t n (yp_spN t n nf ng (yp_widx yp_C3 (yp_wC t n z.1)) (yp_wE t n z.1)).2.1 + 1))
set_option maxHeartbeats 1000000 in
theorem yp_K_step {S : yp_WkT → Option yp_WkR} {Sc : Nat → Int32 → Mem → Option (Int32 × Mem)} {Sm : Nat → Mem → Option Mem} {o d : Nat} (hn : n ≤ 150) (hnf : nf ≤ 6) (hng : ng ≤ 8) (hd : o + d = 6) (hS0 : d ≠ 0 → ∀ x, yp_KSs B t n nf ng (o + 1) S (fun m => Sc (B + 27) (yp_N (o + 1)) m) (fun m => loopN (fun st : Mem => fX12_readAgain_b33 (yp_SH B) Sm (B + 517) x st) FU m)) : yp_KSt B t n nf ng o (yp_stepW t n nf ng o d S) (yp_cst B Sc o) (fun m => fX12_readStep_o (yp_SH B) Sm (B + 517) m) := by
  intro z h1 h4
  have hM := yp_mS B
  have hS := yp_wspS B
  have hA := yp_wspA B
  have hs := yp_sk_ge t n z.1
  have hs2 := yp_sk_le (t := t) h1
  have hw2 := yp_wE_le (t := t) h1
  have hn6 : n ≤ 600 := by omega
  unfold yp_stepW
  generalize hj : yp_widx yp_C3 (yp_wC t n z.1) = w
  have w7 : w ≤ 7 := by rw [← hj]; exact yp_widx_le yp_C3
  by_cases k7 : w = 7
  · rw [if_pos k7]
    subst k7
    refine ⟨_, rfl, ⟨(show 1 ≤ 3 by decide), by show yp_sk t n z.1 ≤ 600; omega⟩, fun q => absurd q (show ¬ (1 : Nat) = 0 by decide), fun m hm => ?_, fun m hm => ?_⟩
    · obtain ⟨e0, e1⟩ := yp_c_pre3 hm
      rw [hj] at e1
      rcases e1 with ⟨e1, _⟩ | ⟨_, e1⟩
      · omega
      · have st : fX10_readStep_o (yp_SH B) Sc (B + 27) (yp_N o) m = some (yp_N 0, yp_cF B (yp_cAt B m (yp_wE t n z.1)) 1 (yp_sk t n z.1)) := by
          simp (disch := omega) only [↓yp_lt1N, fX10_readStep_o, ↓yp_opP hS.1.1, ↓yp_iP8, ↓yp_bdP e0, ↓yp_bdP e1, Nat.reduceAdd, Nat.reduceMul, Nat.reduceSub, Nat.zero_add, Nat.add_zero, yp_LT, yp_nA, yp_nM, yp_ltF, yp_ltT, yp_leF, yp_leT, yp_eqF, eq_self, yp_eqM, yp_lt1N, yp_sbN, yp_sb2N, ↓reduceIte, ↓yp_iP11, ↓yp_iP12, ↓yp_m0P]
        exact ⟨_, by rw [yp_cst0 st]; rfl, (yp_TWc_t (yp_Fr_at _)).tr (yp_TWc_t (yp_Fr_cF _ _)), yp_FL3 (by rw [yp_FL_at]; exact hm.2.1) 1 (by decide), fun q => absurd q (show ¬ (1 : Nat) = 0 by decide)⟩
    · have e0 := yp_m_word hm.1
      have e1 := yp_stepOf0 (v := yp_wC t n z.1) (yp_wC_lt t n z.1) hj
      have q := hm.1.at hs2
      have c4 := q.1.2.1
      have x1 := yp_m_wrong1 (B := B) (m := yp_rAt B m (yp_sk t n z.1)) ((yp_rAt_n _ (by omega)).trans hm.2.1) 1 (yp_sk t n z.1)
      have x2 := yp_m_signX (yp_rF_x (B := B) (m := yp_rAt B m (yp_sk t n z.1)) (k := 1) (x := yp_sk t n z.1) (by omega)) (yp_N 59)
      refine ⟨yp_rF B (yp_rAt B m (yp_sk t n z.1)) 1 (yp_sk t n z.1), ?_, (yp_TWm_t (yp_Fr_rAt _)).tr (yp_TWm_t (yp_Fr_rF _ _)), ⟨⟨(show 1 ≤ 3 by decide), by show yp_sk t n z.1 ≤ 600; omega⟩, .inr ⟨(show ¬ (1 : Nat) = 0 by decide), yp_rF_5 _ _ _ _⟩⟩, fun q => absurd q (show ¬ (1 : Nat) = 0 by decide)⟩
      simp (disch := omega) only [↓yp_lt1N, fX12_readStep_o, fX12_readStep_j151, ↓yp_bdP e0, ↓yp_opP e1, hM, c4, x1, x2, Nat.reduceAdd, Nat.reduceMul, Nat.reduceSub, Nat.zero_add, Nat.add_zero, yp_LT, yp_nA, yp_nM, yp_ltF, yp_ltT, yp_leF, yp_leT, yp_eqF, eq_self, yp_eqM, yp_lt1N, yp_sbN, yp_sb2N, ↓reduceIte, ↓yp_iP11, ↓yp_iP12, ↓yp_m0P]
  · rw [if_neg k7]
    by_cases k6 : w = 6
    · rw [if_pos k6]
      subst k6
      by_cases d0 : d = 0
      · rw [if_pos d0]
        have o6 : o = 6 := by omega
        subst o6
        refine ⟨_, rfl, ⟨(show 3 ≤ 3 by decide), by show yp_sk t n z.1 ≤ 600; omega⟩, fun q => absurd q (show ¬ (3 : Nat) = 0 by decide), fun m hm => ?_, fun m hm => ?_⟩
        · obtain ⟨e0, e1⟩ := yp_c_pre3 hm
          rw [hj] at e1
          rcases e1 with ⟨_, e1⟩ | ⟨e1, _⟩
          · have g := hm.at (q := yp_wE t n z.1) (by have := yp_wE_ge t n z.1; omega) hw2
            have c8 : yp_cAt B m (yp_wE t n z.1) (B + 27) 8 = yp_N z.2.1 := g.2.2.1
            have x1 := yp_c_fail B (yp_cAt B m (yp_wE t n z.1)) 3 (yp_sk t n z.1)
            have st : fX10_readStep_o (yp_SH B) Sc (B + 27) (yp_N 6) m = some (yp_N 0, yp_cF B (yp_cAt B m (yp_wE t n z.1)) 3 (yp_sk t n z.1)) := by
              simp (disch := omega) only [↓yp_lt1N, fX10_readStep_o, fX10_readStep_j49, ↓yp_opP hS.1.1, ↓yp_iP8, ↓yp_bdP e0, ↓yp_bdP e1, hS, c8, x1, yp_ck0, Nat.reduceAdd, Nat.reduceMul, Nat.reduceSub, Nat.zero_add, Nat.add_zero, yp_LT, yp_nA, yp_nM, yp_ltF, yp_ltT, yp_leF, yp_leT, yp_eqF, eq_self, yp_eqM, yp_lt1N, yp_sbN, yp_sb2N, ↓reduceIte, ↓yp_iP11, ↓yp_iP12, ↓yp_m0P]
            exact ⟨_, by rw [yp_cst0 st]; rfl, (yp_TWc_t (yp_Fr_at _)).tr (yp_TWc_t (yp_Fr_cF _ _)), yp_FL3 (by rw [yp_FL_at]; exact hm.2.1) 3 (by decide), fun q => absurd q (show ¬ (3 : Nat) = 0 by decide)⟩
          · omega
        · have e0 := yp_m_word hm.1
          have e1 := yp_stepOf1 (v := yp_wC t n z.1) (by rw [hj]; omega)
          rw [hj] at e1
          have q := hm.1.at hs2
          have e2 := yp_m_openB (B := B) (m := yp_rAt B m (yp_sk t n z.1)) (p := yp_sk t n z.1) ((yp_rAt_n _ (by omega)).trans hm.2.1) q.1.2.1 ((yp_rAt_n _ (by omega)).trans hm.2.2.2.2.2) (by omega) (yp_N 5)
          obtain ⟨m1, hm1⟩ : ∃ m1, m1 = up2 (yp_rF B (yp_rAt B m (yp_sk t n z.1)) 3 (yp_sk t n z.1)) (B + 517) 7 (yp_N 7) := ⟨_, rfl⟩
          rw [← hm1] at e2
          have r1 : yp_RS B m1 (3, yp_sk t n z.1) := by
            rw [hm1]
            exact yp_RS7 ⟨⟨(show 3 ≤ 3 by decide), by show yp_sk t n z.1 ≤ 600; omega⟩, .inr ⟨(show ¬ (3 : Nat) = 0 by decide), yp_rF_5 _ _ _ _⟩⟩ _
          have nf := r1.bad (show ¬ (3 : Nat) = 0 by decide)
          have x1 := yp_m_numX nf (yp_N 0) (yp_N 40)
          have x1' : fX12_readNumber (yp_SH B) (B + 517) 0 40 m1 = some (yp_N 0, m1) := x1
          have x2 := yp_m_signX nf (yp_N 91)
          have x3n := yp_m_tell0 nf (yp_N 6) (yp_N 0) (yp_N 0) (yp_N 0)
          have x3 : fX12_tellsStep (yp_SH B) (B + 517) 6 (yp_N 0) 0 0 m1 = some m1 := x3n
          have r30 := hM.2.2.1 m1 30
          have f0 := yp_m_fine0 nf
          have x4 : loopN (fun st : Mem => fX12_readAgain_b33 (yp_SH B) Sm (B + 517) (m1 (B + 517) 30) st) FU m1 = some m1 := yp_lpXx (by simp (disch := omega) only [fX12_readAgain_b33, f0, Nat.reduceAdd, Nat.reduceMul, Nat.reduceSub, Nat.zero_add, Nat.add_zero, yp_LT, yp_nA, yp_nM, yp_ltF, yp_ltT, yp_leF, yp_leT, yp_eqF, eq_self, yp_eqM, yp_lt1N, yp_sbN, yp_sb2N, ↓reduceIte, ↓yp_iP11, ↓yp_iP12, ↓yp_m0P])
          have x5 := yp_m_signX nf (yp_N 93)
          obtain ⟨m2, hm2⟩ : ∃ m2, m2 = up2 m1 (B + 517) 7 (m1 (B + 517) 7 - yp_N 1) := ⟨_, rfl⟩
          have nf2 : ¬ m2 (B + 517) 5 = -yp_N 1 := by rw [hm2, yp_up2_n _ _ (by omega)]; exact nf
          have f2 := yp_m_fine0 nf2
          have x6 := yp_m_signX nf2 (yp_N 59)
          have ag : fX12_readAgain_o (yp_SH B) Sm (B + 517) (yp_rAt B m (yp_sk t n z.1)) = some m2 := by
            simp (disch := omega) only [↓yp_lt1N, fX12_readAgain_o, fX12_readAgain_j56, fX12_readAgain_j91, hM, e2, ↓yp_bdP x1', x1, x2, ↓yp_opP r30, ↓yp_opP x3, x3n, x4, x5, ← hm2, f2, Nat.reduceAdd, Nat.reduceMul, Nat.reduceSub, Nat.zero_add, Nat.add_zero, yp_LT, yp_nA, yp_nM, yp_ltF, yp_ltT, yp_leF, yp_leT, yp_eqF, eq_self, yp_eqM, yp_lt1N, yp_sbN, yp_sb2N, ↓reduceIte, ↓yp_iP11, ↓yp_iP12, ↓yp_m0P]
          have F1 : yp_Fr (yp_TWm B z.2.1) m m2 := by
            rw [hm2, hm1]
            exact (((yp_TWm_t (yp_Fr_rAt _)).tr (yp_TWm_t (yp_Fr_rF _ _))).tr (yp_Fr_7w _)).tr (yp_Fr_7w _)
          refine ⟨m2, ?_, F1, r1.fr (fun j q => by rw [hm2, yp_up2_n _ _ (by omega)]), fun q => absurd q (show ¬ (3 : Nat) = 0 by decide)⟩
          simp (disch := omega) only [↓yp_lt1N, fX12_readStep_o, fX12_readStep_j151, ↓yp_bdP e0, ↓yp_opP e1, ↓yp_opP ag, x6, Nat.reduceAdd, Nat.reduceMul, Nat.reduceSub, Nat.zero_add, Nat.add_zero, yp_LT, yp_nA, yp_nM, yp_ltF, yp_ltT, yp_leF, yp_leT, yp_eqF, eq_self, yp_eqM, yp_lt1N, yp_sbN, yp_sb2N, ↓reduceIte, ↓yp_iP11, ↓yp_iP12, ↓yp_m0P]
      · rw [if_neg d0]
        have hK := hS0 d0
        have hw3 := yp_w3_len (t := t) h1 (by rw [hj]; omega)
        have ho : o ≤ 5 := by omega
        have ex : ∃ r', yp_agW t n o S z = some r' ∧ yp_fok r'.1 ∧ (r'.1.1 = 0 → yp_PW n nf ng o z r'.2 ∧ z.1 + 4 ≤ r'.2.1) := by
          unfold yp_agW
          by_cases kf : (yp_agF t n (yp_wE t n z.1)).1 = 0
          · rw [if_pos kf]
            have hz := yp_agZ_le (t := t) (o := o) h4 (show z.1 + 3 ≤ yp_wE t n z.1 by omega) kf
            obtain ⟨r, s1, s2, s3, _⟩ := hK (yp_N 0) (yp_agZ t n o (yp_wE t n z.1) z) hz.1 hz.2.1
            rw [s1]
            by_cases k3 : r.1.1 = 0
            · obtain ⟨pw, ps, pk'⟩ := s3 k3
              have ps : yp_sgk t n r.2.1 93 = 0 := by
                unfold yp_stp at ps
                rw [if_neg (by omega)] at ps
                exact ps
              have pl := (yp_sgk0 ps).1
              rw [pk'] at pl
              exact ⟨_, if_pos k3, yp_sgk_ok (by omega) hn6 59, fun kk => yp_agP h4 (by omega) ho kf pw kk⟩
            · exact ⟨_, if_neg k3, s2, fun kk => absurd kk k3⟩
          · rw [if_neg kf]
            exact ⟨_, rfl, yp_agF_ok hw2 hn, fun kk => absurd kk kf⟩
        obtain ⟨r', x1, x2, x3⟩ := ex
        exact ⟨r', x1, x2, x3, yp_c_again hn h1 h4 ho hj (hK (yp_N 0)) r' x1, yp_m_again hn h1 h4 ho hj hK r' x1⟩
    · rw [if_neg k6]
      have w6 : w < 6 := by omega
      have hw3 := yp_w3_len (t := t) h1 (by rw [hj]; omega)
      obtain ⟨p1, p2, p3⟩ := yp_spN_le (t := t) (nf := nf) (ng := ng) (w := w) hw2 hn
      refine ⟨_, rfl, yp_fa_ok p3 (yp_sgk_ok p2 hn6 59), fun kk => ?_, yp_c_simple hn hnf hng h1 h4 w hj w6, yp_m_simple hn hnf hng h1 h4 w hj w6⟩
      obtain ⟨k1, k2, _⟩ := yp_fa0 kk
      have k3 := (yp_sgk0 k2).1
      have k4 := yp_sk_ge t n (yp_spN t n nf ng w (yp_wE t n z.1)).2.1
      refine ⟨⟨?_, ?_, ?_, ?_, fun k hk => ?_, fun k kk1 kk2 => ?_⟩, ?_⟩
      · show z.1 ≤ yp_sk t n (yp_spN t n nf ng w (yp_wE t n z.1)).2.1 + 1; omega
      · show yp_sk t n (yp_spN t n nf ng w (yp_wE t n z.1)).2.1 + 1 ≤ n; omega
      · show z.2.1 ≤ z.2.1 + 1; omega
      · show 4 * (z.2.1 + 1) + z.1 ≤ yp_sk t n (yp_spN t n nf ng w (yp_wE t n z.1)).2.1 + 1 + 4 * z.2.1; omega
      · exact if_neg (show k ≠ z.2.1 by omega)
      · have kk2 : k < z.2.1 + 1 := kk2
        have : k = z.2.1 := by omega
        subst this
        exact yp_spN_ok w6 k1 _ _ (if_pos rfl)
      · show z.1 + 4 ≤ yp_sk t n (yp_spN t n nf ng w (yp_wE t n z.1)).2.1 + 1; omega
end AGAINM

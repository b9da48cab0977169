section TWO
variable {B : Nat} {t : Nat → Nat} {n : Nat}
set_option maxHeartbeats 1000000 in
theorem yp_c_pre {m : Mem} {z : yp_LwT} (hm : yp_LC B m t n z) (c1 : ¬ (yp_sk t n z.1 < n ∧ yp_dg t (yp_sk t n z.1) = true)) (c2 : ¬ (yp_sk t n z.1 < n ∧ t (yp_sk t n z.1) = 40)) : fX8_next (yp_SH B) (B + 1) m = some (yp_N (yp_sk t n z.1), yp_cAt B m (yp_sk t n z.1)) ∧ fX8_seesDigit (yp_SH B) (B + 1) (yp_cAt B m (yp_sk t n z.1)) = some (yp_N 0, yp_cAt B m (yp_sk t n z.1)) ∧ fX8_takes (yp_SH B) (B + 1) 40 (yp_cAt B m (yp_sk t n z.1)) = some (yp_N 0, yp_cAt B m (yp_sk t n z.1)) ∧ ((yp_widx yp_C2 (yp_wC t n z.1) < 10 ∧ fX8_word (yp_SH B) (B + 1) 2 (yp_cAt B m (yp_sk t n z.1)) = some (yp_N (yp_widx yp_C2 (yp_wC t n z.1)), yp_cAt B m (yp_wE t n z.1))) ∨ (yp_widx yp_C2 (yp_wC t n z.1) = 10 ∧ fX8_word (yp_SH B) (B + 1) 2 (yp_cAt B m (yp_sk t n z.1)) = some (-yp_N 1, yp_cF B (yp_cAt B m (yp_wE t n z.1)) 1 (yp_sk t n z.1)))) := by
  have hs2 := yp_sk_le (t := t) hm.1.2.2.1
  have q := hm.1.at hs2
  have e1 := yp_c_seesD q
  rw [yp_sk_fix, yp_cAt2, if_neg c1] at e1
  have e2 := yp_c_takes0 q 40 (by omega) (by rw [yp_sk_fix]; exact c2)
  rw [yp_sk_fix, yp_cAt2] at e2
  refine ⟨yp_c_next hm.1, e1, e2, ?_⟩
  rcases yp_c_word yp_ws2 q with ⟨w1, w2⟩ | ⟨w1, w2⟩
  · rw [yp_wC_sk] at w1 w2
    rw [yp_wE_sk, yp_cAt2] at w2
    exact .inl ⟨w1, w2⟩
  · rw [yp_wC_sk] at w1
    rw [yp_wE_sk, yp_cAt2, yp_sk_fix] at w2
    exact .inr ⟨w1, w2⟩
set_option maxHeartbeats 1000000 in
theorem yp_m_pre {m : Mem} {z : yp_LwT} {o : Nat} (hm : yp_LM B m t n z o) (c1 : ¬ (yp_sk t n z.1 < n ∧ yp_dg t (yp_sk t n z.1) = true)) (c2 : ¬ (yp_sk t n z.1 < n ∧ t (yp_sk t n z.1) = 40)) : ∃ v, v < 256 ∧ v ≠ 40 ∧ fX12_here (yp_SH B) (B + 517) m = some (yp_N v, yp_rAt B m (yp_sk t n z.1)) ∧ fX12_here (yp_SH B) (B + 517) (yp_rAt B m (yp_sk t n z.1)) = some (yp_N v, yp_rAt B m (yp_sk t n z.1)) ∧ fX12_isDigit (yp_N v) = some (yp_N 0) ∧ fX12_word (yp_SH B) (B + 517) (yp_rAt B m (yp_sk t n z.1)) = some (yp_N (yp_wC t n z.1), yp_rAt B m (yp_sk t n z.1)) := by
  have hs2 := yp_sk_le (t := t) hm.1.2.2.1
  have q := hm.1.at hs2
  have e1 := yp_m_here hm.1
  have e2 := yp_m_here q
  have e3 := yp_m_word q
  rw [yp_sk_fix, yp_rAt2] at e2
  rw [yp_sk_fix, yp_wC_sk, yp_rAt2] at e3
  by_cases e : yp_sk t n z.1 < n
  · rw [if_pos e] at e1 e2
    have b := hm.1.2.2.2 (yp_sk t n z.1)
    refine ⟨t (yp_sk t n z.1), b, fun h => c2 ⟨e, h⟩, e1, e2, ?_, e3⟩
    rw [yp_isDm _ (by omega), if_neg (fun h => c1 ⟨e, yp_dg1.mpr h⟩)]
  · rw [if_neg e] at e1 e2
    refine ⟨0, by omega, by omega, e1, e2, ?_, e3⟩
    rw [yp_isDm _ (by omega), if_neg (by omega)]
set_option maxHeartbeats 1000000 in
theorem yp_w8_len {p : Nat} (hp : p ≤ n) (h : yp_wC t n p = 12748404) : yp_wE t n p = yp_sk t n p + 5 := by
  have q := ((yp_wm_code (t := t) yp_ws2 hp 8 (by decide)).mpr h).1
  have q : yp_wE t n p - yp_sk t n p = 5 := q
  have := yp_wE_ge t n p
  omega
set_option maxHeartbeats 1000000 in
theorem yp_w9_len {p : Nat} (hp : p ≤ n) (h : yp_wC t n p = 441972) : yp_wE t n p = yp_sk t n p + 4 := by
  have q := ((yp_wm_code (t := t) yp_ws2 hp 9 (by decide)).mpr h).1
  have q : yp_wE t n p - yp_sk t n p = 4 := q
  have := yp_wE_ge t n p
  omega
set_option maxHeartbeats 1000000 in
theorem yp_m_pre89 {m : Mem} {z : yp_LwT} {o : Nat} {Sm : Nat → Mem → Option Mem} (hm : yp_LM B m t n z o) (c1 : ¬ (yp_sk t n z.1 < n ∧ yp_dg t (yp_sk t n z.1) = true)) (c2 : ¬ (yp_sk t n z.1 < n ∧ t (yp_sk t n z.1) = 40)) (j : Nat) (hj : yp_widx yp_C2 (yp_wC t n z.1) = j) (h8 : 8 ≤ j) (h9 : j < 10) : ∃ b, yp_wE t n z.1 = yp_sk t n z.1 + b ∧ b ≤ 5 ∧ fX12_readUnit_o (yp_SH B) Sm (B + 517) m = (fX12_readTwo_o (yp_SH B) Sm (B + 517) (yp_N b) (yp_N (j - 2)) (yp_rAt B m (yp_sk t n z.1))).bind (fun m' => some m') := by
  have hM := yp_mS B
  have hO := yp_ofS
  obtain ⟨v, v1, v2, v3, v4, v5, v6⟩ := yp_m_pre hm c1 c2
  have f0 := yp_m_fine1 hm.2.1
  have hv := yp_widx_get yp_C2 j hj (by show j < 10; omega)
  have hp := hm.1.2.2.1
  have : j = 8 ∨ j = 9 := by omega
  rcases this with rfl | rfl
  · have hv : yp_wC t n z.1 = 12748404 := hv
    refine ⟨5, yp_w8_len hp hv, by omega, ?_⟩
    rw [hv] at v6
    simp (disch := omega) only [fX12_readUnit_o, fX12_readUnit_j153, ↓yp_opP f0, ↓yp_bdP v3, ↓yp_bdP v4, ↓yp_opP v5, ↓yp_bdP v6, hM, hO, Nat.reduceAdd, Nat.reduceMul, Nat.reduceSub, Nat.zero_add, Nat.add_zero, yp_LT, yp_nA, yp_nM, yp_ltF, yp_ltT, yp_leF, yp_leT, yp_eqF, eq_self, yp_eqM, yp_lt1N, yp_sbN, yp_sb2N, ↓reduceIte, ↓yp_iP11, ↓yp_iP12, ↓yp_m0P]
  · have hv : yp_wC t n z.1 = 441972 := hv
    refine ⟨4, yp_w9_len hp hv, by omega, ?_⟩
    rw [hv] at v6
    simp (disch := omega) only [fX12_readUnit_o, fX12_readUnit_j153, ↓yp_opP f0, ↓yp_bdP v3, ↓yp_bdP v4, ↓yp_opP v5, ↓yp_bdP v6, hM, hO, Nat.reduceAdd, Nat.reduceMul, Nat.reduceSub, Nat.zero_add, Nat.add_zero, yp_LT, yp_nA, yp_nM, yp_ltF, yp_ltT, yp_leF, yp_leT, yp_eqF, eq_self, yp_eqM, yp_lt1N, yp_sbN, yp_sb2N, ↓reduceIte, ↓yp_iP11, ↓yp_iP12, ↓yp_m0P]
set_option maxHeartbeats 1000000 in
theorem yp_ctok67 {j : Nat} (h8 : 8 ≤ j) (h9 : j < 10) : yp_ctok (j - 2, 0) = if j = 8 then yp_N 1105 else yp_N 1106 := by
  have : j = 8 ∨ j = 9 := by omega
  rcases this with rfl | rfl <;> rfl
set_option maxHeartbeats 1000000 in
theorem yp_K_two {S : yp_LwT → Option yp_LwR} {Sc : Nat → Nat → Int32 → Mem → Option (Int32 × Mem)} {Sm : Nat → Mem → Option Mem} {o d : Nat} (hn : n ≤ 150) (hd : o + d = 6) (hd0 : d ≠ 0) (hS : yp_KU B t n (o + 1) S (fun m => Sc (B + 14) (B + 1) (yp_N (o + 1)) m) (fun m => Sm (B + 517) m)) (z : yp_LwT) (h1 : z.1 ≤ n) (h2 : z.2.1 ≤ z.1) (c1 : ¬ (yp_sk t n z.1 < n ∧ yp_dg t (yp_sk t n z.1) = true)) (c2 : ¬ (yp_sk t n z.1 < n ∧ t (yp_sk t n z.1) = 40)) (j : Nat) (hj : yp_widx yp_C2 (yp_wC t n z.1) = j) (h8 : 8 ≤ j) (h9 : j < 10) : ∃ r, yp_twoO t n S j (yp_wE t n z.1) z = some r ∧ yp_fok r.1 ∧ (r.1.1 = 0 → yp_PQ n z r.2 1) ∧ yp_KC2 B t n z r (fun m => fX4_readUnit_o (yp_SH B) Sc (B + 14) (B + 1) (yp_N o) m) ∧ yp_KM2 B t n o z r (fun m => fX12_readUnit_o (yp_SH B) Sm (B + 517) m) := by
  have hM := yp_mS B
  have hs := yp_sk_ge t n z.1
  have hs2 := yp_sk_le (t := t) h1
  have hw := yp_wE_ge t n z.1
  have hw2 := yp_wE_le (t := t) h1
  have so : yp_N (o + 1) - yp_N 1 = yp_N o := by rw [yp_nS (by omega)]; rfl
  have so2 : yp_N o + 1 = yp_N (o + 1) := yp_nA o 1
  have goC : ∀ m, yp_LC B m t n z → (fX8_next (yp_SH B) (B + 1) m = some (yp_N (yp_sk t n z.1), yp_cAt B m (yp_sk t n z.1)) ∧ fX8_seesDigit (yp_SH B) (B + 1) (yp_cAt B m (yp_sk t n z.1)) = some (yp_N 0, yp_cAt B m (yp_sk t n z.1)) ∧ fX8_takes (yp_SH B) (B + 1) 40 (yp_cAt B m (yp_sk t n z.1)) = some (yp_N 0, yp_cAt B m (yp_sk t n z.1)) ∧ fX8_word (yp_SH B) (B + 1) 2 (yp_cAt B m (yp_sk t n z.1)) = some (yp_N j, yp_cAt B m (yp_wE t n z.1))) ∧ yp_LC B (yp_cAt B m (yp_wE t n z.1)) t n (yp_wE t n z.1, z.2) := fun m hm => by
    obtain ⟨e0, e1, e2, e3⟩ := yp_c_pre hm c1 c2
    rw [hj] at e3
    rcases e3 with ⟨_, e3⟩ | ⟨e3, _⟩
    · exact ⟨⟨e0, e1, e2, e3⟩, hm.at (by omega) hw2⟩
    · omega
  have goM : ∀ m, yp_LM B m t n z o → ∃ b m1, fX12_readUnit_o (yp_SH B) Sm (B + 517) m = (fX12_readTwo_o (yp_SH B) Sm (B + 517) (yp_N b) (yp_N (j - 2)) (yp_rAt B m (yp_sk t n z.1))).bind (fun m' => some m') ∧ fX12_opensOne (yp_SH B) (B + 517) (yp_N b) (yp_rAt B m (yp_sk t n z.1)) = some m1 ∧ yp_LM B m1 t n (yp_wE t n z.1, z.2) (o + 1) ∧ yp_Fr (yp_TLm B) m m1 := fun m hm => by
    obtain ⟨b, yp_b1, b2, b3⟩ := yp_m_pre89 (Sm := Sm) hm c1 c2 j hj h8 h9
    have g := hm.at hs hs2
    have e2 := yp_m_open1 g (by omega) b (by show yp_sk t n z.1 + b ≤ n; omega)
    have e2 : fX12_opensOne (yp_SH B) (B + 517) (yp_N b) (yp_rAt B m (yp_sk t n z.1)) = some (up2 (yp_rAt B (yp_rAt B m (yp_sk t n z.1)) (yp_sk t n z.1 + b)) (B + 517) 7 (yp_N (o + 1))) := e2
    rw [yp_rAt2, ← yp_b1] at e2
    exact ⟨b, _, b3, e2, (hm.at (q := yp_wE t n z.1) (by omega) (by omega)).o (o + 1), (yp_T46_lm (yp_Fr_rAt _)).tr (yp_Fr_7 _)⟩
  have hE := yp_sk_ge t n (yp_wE t n z.1)
  have hE2 := yp_sk_le (t := t) hw2
  by_cases k0 : yp_sgk t n (yp_wE t n z.1) 91 = 0
  rotate_left
  · refine ⟨((yp_sgk t n (yp_wE t n z.1) 91, yp_sk t n (yp_wE t n z.1)), z), by unfold yp_twoO; exact if_neg k0, yp_sgk_ok hw2 (by omega) 91, fun q => absurd q k0, fun m hm => ?_, fun m hm => ?_⟩
    · obtain ⟨⟨e0, e1, e2, e3⟩, g⟩ := goC m hm
      obtain ⟨v, m2, d1, d2, d3, d4⟩ := yp_LC_wan g 91 (by omega)
      obtain ⟨rfl, d5⟩ := d4 k0
      have d1 : fX8_wants (yp_SH B) (B + 1) 91 (yp_cAt B m (yp_wE t n z.1)) = some (yp_N 0, m2) := d1
      refine ⟨m2, ?_, (yp_T35_lc (yp_Fr_at _)).tr d2, d5, fun q => absurd q k0⟩
      rw [if_neg (show ¬ (yp_sgk t n (yp_wE t n z.1) 91, yp_sk t n (yp_wE t n z.1)).1 = 0 from k0)]
      simp (disch := omega) only [fX4_readUnit_o, fX4_readUnit_j216, fX4_readUnit_j217, fX4_readUnit_j206, ↓yp_iP8, ↓yp_iP4, ↓yp_bdP e0, ↓yp_bdP e1, ↓yp_bdP e2, ↓yp_bdP e3, ↓yp_bdP d1, yp_ck0, Nat.reduceAdd, Nat.reduceMul, Nat.reduceSub, Nat.zero_add, Nat.add_zero, yp_LT, yp_nA, yp_nM, yp_ltF, yp_ltT, yp_leF, yp_leT, yp_eqF, eq_self, yp_eqM, yp_lt1N, yp_sbN, yp_sb2N, ↓reduceIte, ↓yp_iP11, ↓yp_iP12, ↓yp_m0P]
    · obtain ⟨b, m1, e0, g1, g2, g3⟩ := goM m hm
      obtain ⟨m2, d1, d2, d3, d4, d5⟩ := yp_LM_sg g2 91 (by omega) (by omega)
      have nf := d3.bad k0
      have x1 := hS.2 m2 nf
      have x1 : Sm (B + 517) m2 = some m2 := x1
      have x2 := yp_m_signX nf (yp_N 44)
      have x3 := yp_m_signX nf (yp_N 93)
      have x4 := yp_m_emit0 (B := B) (m := up2 m2 (B + 517) 7 (yp_N o)) (by rw [yp_up2_n _ _ (by omega)]; exact nf) (yp_N (j - 2)) (yp_N 0)
      refine ⟨up2 m2 (B + 517) 7 (yp_N o), ?_, (g3.tr d2).tr (yp_Fr_7 _), yp_RS7 d3 _, fun q => absurd q k0⟩
      show fX12_readUnit_o (yp_SH B) Sm (B + 517) m = _
      rw [e0]
      simp (disch := omega) only [fX12_readTwo_o, hM, ↓yp_opP g1, d1, x1, x2, x3, d4, so, x4, Nat.reduceAdd, Nat.reduceMul, Nat.reduceSub, Nat.zero_add, Nat.add_zero, yp_LT, yp_nA, yp_nM, yp_ltF, yp_ltT, yp_leF, yp_leT, yp_eqF, eq_self, yp_eqM, yp_lt1N, yp_sbN, yp_sb2N, ↓reduceIte, ↓yp_iP11, ↓yp_iP12, ↓yp_m0P]
  have kn := yp_sgk_n k0
  obtain ⟨r1, a1, a2, a3, a4, a5⟩ := hS.1 (yp_sk t n (yp_wE t n z.1) + 1, z.2) (by show yp_sk t n (yp_wE t n z.1) + 1 ≤ n; omega) (by show z.2.1 ≤ yp_sk t n (yp_wE t n z.1) + 1; omega)
  have gC1 : ∀ m, yp_LC B m t n z → ∃ ma m1, fX8_wants (yp_SH B) (B + 1) 91 (yp_cAt B m (yp_wE t n z.1)) = some (yp_N 1, ma) ∧ Sc (B + 14) (B + 1) (yp_N o + 1) ma = some (if r1.1.1 = 0 then yp_N 1 else yp_N 0, m1) ∧ yp_Fr (yp_TLc B) m m1 ∧ yp_FL B m1 = yp_FLk r1.1 ∧ (r1.1.1 = 0 → yp_LC B m1 t n r1.2) := fun m hm => by
    obtain ⟨_, g⟩ := goC m hm
    obtain ⟨v, m2, d1, d2, d3, d4⟩ := yp_LC_wan g 91 (by omega)
    obtain ⟨rfl, d5⟩ := d3 k0
    obtain ⟨m3, yp_b1, b2, b3, b4⟩ := a4 m2 d5
    exact ⟨m2, m3, d1, by rw [so2]; exact yp_b1, ((yp_T35_lc (yp_Fr_at _)).tr d2).tr b2, b3, b4⟩
  have gM1 : ∀ m, yp_LM B m t n z o → ∃ b m1 ma m2, fX12_readUnit_o (yp_SH B) Sm (B + 517) m = (fX12_readTwo_o (yp_SH B) Sm (B + 517) (yp_N b) (yp_N (j - 2)) (yp_rAt B m (yp_sk t n z.1))).bind (fun m' => some m') ∧ fX12_opensOne (yp_SH B) (B + 517) (yp_N b) (yp_rAt B m (yp_sk t n z.1)) = some m1 ∧ fX12_sign (yp_SH B) (B + 517) (yp_N 91) m1 = some ma ∧ Sm (B + 517) ma = some m2 ∧ yp_Fr (yp_TLm B) m m2 ∧ yp_RS B m2 r1.1 ∧ (r1.1.1 = 0 → yp_LM B m2 t n r1.2 (o + 1)) := fun m hm => by
    obtain ⟨b, m1, e0, g1, g2, g3⟩ := goM m hm
    obtain ⟨m2, d1, d2, d3, d4, d5⟩ := yp_LM_sg g2 91 (by omega) (by omega)
    obtain ⟨m3, yp_b1, b2, b3, b4⟩ := a5 m2 (d5 k0)
    exact ⟨b, m1, m2, m3, e0, g1, d1, yp_b1, (g3.tr d2).tr b2, b3, b4⟩
  by_cases k1 : r1.1.1 = 0
  rotate_left
  · refine ⟨r1, by unfold yp_twoO; rw [if_pos k0, a1]; exact if_neg k1, a2, fun q => absurd q k1, fun m hm => ?_, fun m hm => ?_⟩
    · obtain ⟨⟨e0, e1, e2, e3⟩, g⟩ := goC m hm
      obtain ⟨ma, m1, d1, yp_b1, b2, b3, b4⟩ := gC1 m hm
      rw [if_neg k1] at yp_b1
      refine ⟨m1, ?_, b2, b3, fun q => absurd q k1⟩
      rw [if_neg k1]
      simp (disch := omega) only [fX4_readUnit_o, fX4_readUnit_j216, fX4_readUnit_j217, fX4_readUnit_j206, ↓yp_iP8, ↓yp_iP4, ↓yp_bdP e0, ↓yp_bdP e1, ↓yp_bdP e2, ↓yp_bdP e3, ↓yp_bdP d1, ↓yp_bdP yp_b1, yp_ck0, Nat.reduceAdd, Nat.reduceMul, Nat.reduceSub, Nat.zero_add, Nat.add_zero, yp_LT, yp_nA, yp_nM, yp_ltF, yp_ltT, yp_leF, yp_leT, yp_eqF, eq_self, yp_eqM, yp_lt1N, yp_sbN, yp_sb2N, ↓reduceIte, ↓yp_iP11, ↓yp_iP12, ↓yp_m0P]
    · obtain ⟨b, m1, ma, m2, e0, g1, d1, yp_b1, b2, b3, b4⟩ := gM1 m hm
      have nf := b3.bad k1
      have x1 := hS.2 m2 nf
      have x1 : Sm (B + 517) m2 = some m2 := x1
      have x2 := yp_m_signX nf (yp_N 44)
      have x3 := yp_m_signX nf (yp_N 93)
      have x4 := yp_m_emit0 (B := B) (m := up2 m2 (B + 517) 7 (m2 (B + 517) 7 - yp_N 1)) (by rw [yp_up2_n _ _ (by omega)]; exact nf) (yp_N (j - 2)) (yp_N 0)
      refine ⟨up2 m2 (B + 517) 7 (m2 (B + 517) 7 - yp_N 1), ?_, b2.tr (yp_Fr_7 _), yp_RS7 b3 _, fun q => absurd q k1⟩
      show fX12_readUnit_o (yp_SH B) Sm (B + 517) m = _
      rw [e0]
      simp (disch := omega) only [fX12_readTwo_o, hM, ↓yp_opP g1, d1, yp_b1, x1, x2, x3, x4, Nat.reduceAdd, Nat.reduceMul, Nat.reduceSub, Nat.zero_add, Nat.add_zero, yp_LT, yp_nA, yp_nM, yp_ltF, yp_ltT, yp_leF, yp_leT, yp_eqF, eq_self, yp_eqM, yp_lt1N, yp_sbN, yp_sb2N, ↓reduceIte, ↓yp_iP11, ↓yp_iP12, ↓yp_m0P]
  have q1 := a3 k1
  have q2 : yp_sk t n (yp_wE t n z.1) + 1 < r1.2.1 := q1.lt
  have q3 := q1.2.1
  have q3' : r1.2.2.1 + (yp_sk t n (yp_wE t n z.1) + 1) ≤ r1.2.1 + z.2.1 := q1.2.2.2.1
  have p1 : yp_PQ n z r1.2 1 := q1.st (by show z.1 ≤ yp_sk t n (yp_wE t n z.1) + 1; omega)
  have hF := yp_sk_ge t n r1.2.1
  have hF2 := yp_sk_le (t := t) q3
  by_cases k2 : yp_sgk t n r1.2.1 44 = 0
  rotate_left
  · refine ⟨((yp_sgk t n r1.2.1 44, yp_sk t n r1.2.1), z), by unfold yp_twoO; rw [if_pos k0, a1]; exact (if_pos k1).trans (if_neg k2), yp_sgk_ok q3 (by omega) 44, fun q => absurd q k2, fun m hm => ?_, fun m hm => ?_⟩
    · obtain ⟨⟨e0, e1, e2, e3⟩, g⟩ := goC m hm
      obtain ⟨ma, m1, d1, yp_b1, b2, b3, b4⟩ := gC1 m hm
      rw [if_pos k1] at yp_b1
      obtain ⟨v, m2, f1, f2, f3, f4⟩ := yp_LC_wan (b4 k1) 44 (by omega)
      obtain ⟨rfl, f5⟩ := f4 k2
      have f1 : fX8_wants (yp_SH B) (B + 1) 44 m1 = some (yp_N 0, m2) := f1
      refine ⟨m2, ?_, b2.tr f2, f5, fun q => absurd q k2⟩
      rw [if_neg (show ¬ (yp_sgk t n r1.2.1 44, yp_sk t n r1.2.1).1 = 0 from k2)]
      simp (disch := omega) only [fX4_readUnit_o, fX4_readUnit_j216, fX4_readUnit_j217, fX4_readUnit_j206, ↓yp_iP8, ↓yp_iP4, ↓yp_bdP e0, ↓yp_bdP e1, ↓yp_bdP e2, ↓yp_bdP e3, ↓yp_bdP d1, ↓yp_bdP yp_b1, ↓yp_bdP f1, yp_ck0, Nat.reduceAdd, Nat.reduceMul, Nat.reduceSub, Nat.zero_add, Nat.add_zero, yp_LT, yp_nA, yp_nM, yp_ltF, yp_ltT, yp_leF, yp_leT, yp_eqF, eq_self, yp_eqM, yp_lt1N, yp_sbN, yp_sb2N, ↓reduceIte, ↓yp_iP11, ↓yp_iP12, ↓yp_m0P]
    · obtain ⟨b, m1, ma, m2, e0, g1, d1, yp_b1, b2, b3, b4⟩ := gM1 m hm
      obtain ⟨m3, f1, f2, f3, f4, f5⟩ := yp_LM_sg (b4 k1) 44 (by omega) (by omega)
      have nf := f3.bad k2
      have x1 := hS.2 m3 nf
      have x1 : Sm (B + 517) m3 = some m3 := x1
      have x3 := yp_m_signX nf (yp_N 93)
      have x4 := yp_m_emit0 (B := B) (m := up2 m3 (B + 517) 7 (yp_N o)) (by rw [yp_up2_n _ _ (by omega)]; exact nf) (yp_N (j - 2)) (yp_N 0)
      refine ⟨up2 m3 (B + 517) 7 (yp_N o), ?_, (b2.tr f2).tr (yp_Fr_7 _), yp_RS7 f3 _, fun q => absurd q k2⟩
      show fX12_readUnit_o (yp_SH B) Sm (B + 517) m = _
      rw [e0]
      simp (disch := omega) only [fX12_readTwo_o, hM, ↓yp_opP g1, d1, yp_b1, f1, x1, x3, f4, so, x4, Nat.reduceAdd, Nat.reduceMul, Nat.reduceSub, Nat.zero_add, Nat.add_zero, yp_LT, yp_nA, yp_nM, yp_ltF, yp_ltT, yp_leF, yp_leT, yp_eqF, eq_self, yp_eqM, yp_lt1N, yp_sbN, yp_sb2N, ↓reduceIte, ↓yp_iP11, ↓yp_iP12, ↓yp_m0P]
  have kn2 := yp_sgk_n k2
  obtain ⟨r2, a1', a2', a3', a4', a5'⟩ := hS.1 (yp_sk t n r1.2.1 + 1, r1.2.2) (by show yp_sk t n r1.2.1 + 1 ≤ n; omega) (by show r1.2.2.1 ≤ yp_sk t n r1.2.1 + 1; omega)
  have gC2 : ∀ m, yp_LC B m t n z → ∃ ma m1 mb m3, fX8_wants (yp_SH B) (B + 1) 91 (yp_cAt B m (yp_wE t n z.1)) = some (yp_N 1, ma) ∧ Sc (B + 14) (B + 1) (yp_N o + 1) ma = some (yp_N 1, m1) ∧ fX8_wants (yp_SH B) (B + 1) 44 m1 = some (yp_N 1, mb) ∧ Sc (B + 14) (B + 1) (yp_N o + 1) mb = some (if r2.1.1 = 0 then yp_N 1 else yp_N 0, m3) ∧ yp_Fr (yp_TLc B) m m3 ∧ yp_FL B m3 = yp_FLk r2.1 ∧ (r2.1.1 = 0 → yp_LC B m3 t n r2.2) := fun m hm => by
    obtain ⟨ma, m1, d1, yp_b1, b2, b3, b4⟩ := gC1 m hm
    rw [if_pos k1] at yp_b1
    obtain ⟨v, m2, f1, f2, f3, f4⟩ := yp_LC_wan (b4 k1) 44 (by omega)
    obtain ⟨rfl, f5⟩ := f3 k2
    obtain ⟨m3, i1, i2, i3, i4⟩ := a4' m2 f5
    exact ⟨ma, m1, m2, m3, d1, yp_b1, f1, by rw [so2]; exact i1, (b2.tr f2).tr i2, i3, i4⟩
  have gM2 : ∀ m, yp_LM B m t n z o → ∃ b m1 ma m2 mb m3, fX12_readUnit_o (yp_SH B) Sm (B + 517) m = (fX12_readTwo_o (yp_SH B) Sm (B + 517) (yp_N b) (yp_N (j - 2)) (yp_rAt B m (yp_sk t n z.1))).bind (fun m' => some m') ∧ fX12_opensOne (yp_SH B) (B + 517) (yp_N b) (yp_rAt B m (yp_sk t n z.1)) = some m1 ∧ fX12_sign (yp_SH B) (B + 517) (yp_N 91) m1 = some ma ∧ Sm (B + 517) ma = some m2 ∧ fX12_sign (yp_SH B) (B + 517) (yp_N 44) m2 = some mb ∧ Sm (B + 517) mb = some m3 ∧ yp_Fr (yp_TLm B) m m3 ∧ yp_RS B m3 r2.1 ∧ (r2.1.1 = 0 → yp_LM B m3 t n r2.2 (o + 1)) := fun m hm => by
    obtain ⟨b, m1, ma, m2, e0, g1, d1, yp_b1, b2, b3, b4⟩ := gM1 m hm
    obtain ⟨mb, f1, f2, f3, f4, f5⟩ := yp_LM_sg (b4 k1) 44 (by omega) (by omega)
    obtain ⟨m3, i1, i2, i3, i4⟩ := a5' mb (f5 k2)
    exact ⟨b, m1, ma, m2, mb, m3, e0, g1, d1, yp_b1, f1, i1, (b2.tr f2).tr i2, i3, i4⟩
  by_cases k3 : r2.1.1 = 0
  rotate_left
  · refine ⟨r2, by unfold yp_twoO; rw [if_pos k0, a1]; refine (if_pos k1).trans ((if_pos k2).trans ?_); rw [a1']; exact if_neg k3, a2', fun q => absurd q k3, fun m hm => ?_, fun m hm => ?_⟩
    · obtain ⟨⟨e0, e1, e2, e3⟩, g⟩ := goC m hm
      obtain ⟨ma, m1, mb, m3, d1, yp_b1, f1, i1, i2, i3, i4⟩ := gC2 m hm
      rw [if_neg k3] at i1
      refine ⟨m3, ?_, i2, i3, fun q => absurd q k3⟩
      rw [if_neg k3]
      simp (disch := omega) only [fX4_readUnit_o, fX4_readUnit_j216, fX4_readUnit_j217, fX4_readUnit_j206, ↓yp_iP8, ↓yp_iP4, ↓yp_bdP e0, ↓yp_bdP e1, ↓yp_bdP e2, ↓yp_bdP e3, ↓yp_bdP d1, ↓yp_bdP yp_b1, ↓yp_bdP f1, ↓yp_bdP i1, yp_ck0, Nat.reduceAdd, Nat.reduceMul, Nat.reduceSub, Nat.zero_add, Nat.add_zero, yp_LT, yp_nA, yp_nM, yp_ltF, yp_ltT, yp_leF, yp_leT, yp_eqF, eq_self, yp_eqM, yp_lt1N, yp_sbN, yp_sb2N, ↓reduceIte, ↓yp_iP11, ↓yp_iP12, ↓yp_m0P]
    · obtain ⟨b, m1, ma, m2, mb, m3, e0, g1, d1, yp_b1, f1, i1, i2, i3, i4⟩ := gM2 m hm
      have nf := i3.bad k3
      have x3 := yp_m_signX nf (yp_N 93)
      have x4 := yp_m_emit0 (B := B) (m := up2 m3 (B + 517) 7 (m3 (B + 517) 7 - yp_N 1)) (by rw [yp_up2_n _ _ (by omega)]; exact nf) (yp_N (j - 2)) (yp_N 0)
      refine ⟨up2 m3 (B + 517) 7 (m3 (B + 517) 7 - yp_N 1), ?_, i2.tr (yp_Fr_7 _), yp_RS7 i3 _, fun q => absurd q k3⟩
      show fX12_readUnit_o (yp_SH B) Sm (B + 517) m = _
      rw [e0]
      simp (disch := omega) only [fX12_readTwo_o, hM, ↓yp_opP g1, d1, yp_b1, f1, i1, x3, x4, Nat.reduceAdd, Nat.reduceMul, Nat.reduceSub, Nat.zero_add, Nat.add_zero, yp_LT, yp_nA, yp_nM, yp_ltF, yp_ltT, yp_leF, yp_leT, yp_eqF, eq_self, yp_eqM, yp_lt1N, yp_sbN, yp_sb2N, ↓reduceIte, ↓yp_iP11, ↓yp_iP12, ↓yp_m0P]
  have q1' := a3' k3
  have q2' : yp_sk t n r1.2.1 + 1 < r2.2.1 := q1'.lt
  have q4 := q1'.2.1
  have q4' : r2.2.2.1 + (yp_sk t n r1.2.1 + 1) ≤ r2.2.1 + r1.2.2.1 := q1'.2.2.2.1
  have p2 : yp_PQ n z (yp_lay (j - 2, 0) r2.2) 1 := p1.op q1' (by omega) (by omega)
  have hG := yp_sk_ge t n r2.2.1
  have hG2 := yp_sk_le (t := t) q4
  by_cases k4 : yp_sgk t n r2.2.1 93 = 0
  rotate_left
  · refine ⟨((yp_sgk t n r2.2.1 93, yp_sk t n r2.2.1), z), by unfold yp_twoO; rw [if_pos k0, a1]; refine (if_pos k1).trans ((if_pos k2).trans ?_); rw [a1']; exact (if_pos k3).trans (if_neg k4), yp_sgk_ok q4 (by omega) 93, fun q => absurd q k4, fun m hm => ?_, fun m hm => ?_⟩
    · obtain ⟨⟨e0, e1, e2, e3⟩, g⟩ := goC m hm
      obtain ⟨ma, m1, mb, m3, d1, yp_b1, f1, i1, i2, i3, i4⟩ := gC2 m hm
      rw [if_pos k3] at i1
      obtain ⟨v, m4, l1, l2, l3, l4⟩ := yp_LC_wan (i4 k3) 93 (by omega)
      obtain ⟨rfl, l5⟩ := l4 k4
      have l1 : fX8_wants (yp_SH B) (B + 1) 93 m3 = some (yp_N 0, m4) := l1
      refine ⟨m4, ?_, i2.tr l2, l5, fun q => absurd q k4⟩
      rw [if_neg (show ¬ (yp_sgk t n r2.2.1 93, yp_sk t n r2.2.1).1 = 0 from k4)]
      simp (disch := omega) only [fX4_readUnit_o, fX4_readUnit_j216, fX4_readUnit_j217, fX4_readUnit_j206, ↓yp_iP8, ↓yp_iP4, ↓yp_bdP e0, ↓yp_bdP e1, ↓yp_bdP e2, ↓yp_bdP e3, ↓yp_bdP d1, ↓yp_bdP yp_b1, ↓yp_bdP f1, ↓yp_bdP i1, ↓yp_bdP l1, yp_ck0, Nat.reduceAdd, Nat.reduceMul, Nat.reduceSub, Nat.zero_add, Nat.add_zero, yp_LT, yp_nA, yp_nM, yp_ltF, yp_ltT, yp_leF, yp_leT, yp_eqF, eq_self, yp_eqM, yp_lt1N, yp_sbN, yp_sb2N, ↓reduceIte, ↓yp_iP11, ↓yp_iP12, ↓yp_m0P]
    · obtain ⟨b, m1, ma, m2, mb, m3, e0, g1, d1, yp_b1, f1, i1, i2, i3, i4⟩ := gM2 m hm
      obtain ⟨m4, l1, l2, l3, l4, l5⟩ := yp_LM_sg (i4 k3) 93 (by omega) (by omega)
      have nf := l3.bad k4
      have x4 := yp_m_emit0 (B := B) (m := up2 m4 (B + 517) 7 (yp_N o)) (by rw [yp_up2_n _ _ (by omega)]; exact nf) (yp_N (j - 2)) (yp_N 0)
      refine ⟨up2 m4 (B + 517) 7 (yp_N o), ?_, (i2.tr l2).tr (yp_Fr_7 _), yp_RS7 l3 _, fun q => absurd q k4⟩
      show fX12_readUnit_o (yp_SH B) Sm (B + 517) m = _
      rw [e0]
      simp (disch := omega) only [fX12_readTwo_o, hM, ↓yp_opP g1, d1, yp_b1, f1, i1, l1, l4, so, x4, Nat.reduceAdd, Nat.reduceMul, Nat.reduceSub, Nat.zero_add, Nat.add_zero, yp_LT, yp_nA, yp_nM, yp_ltF, yp_ltT, yp_leF, yp_leT, yp_eqF, eq_self, yp_eqM, yp_lt1N, yp_sbN, yp_sb2N, ↓reduceIte, ↓yp_iP11, ↓yp_iP12, ↓yp_m0P]
  have kn4 := yp_sgk_n k4
  have len : r2.2.2.1 + 1 ≤ yp_sk t n r2.2.1 + 1 := by omega
  refine ⟨((0, 0), yp_lay (j - 2, 0) (yp_sk t n r2.2.1 + 1, r2.2.2)), by unfold yp_twoO; rw [if_pos k0, a1]; refine (if_pos k1).trans ((if_pos k2).trans ?_); rw [a1']; exact (if_pos k3).trans (if_pos k4), ⟨Nat.zero_le 3, Nat.zero_le 600⟩, fun _ => p2.en (q := yp_sk t n r2.2.1 + 1) (by show r2.2.1 ≤ yp_sk t n r2.2.1 + 1; omega) kn4, fun m hm => ?_, fun m hm => ?_⟩
  · obtain ⟨⟨e0, e1, e2, e3⟩, g⟩ := goC m hm
    obtain ⟨ma, m1, mb, m3, d1, yp_b1, f1, i1, i2, i3, i4⟩ := gC2 m hm
    rw [if_pos k3] at i1
    obtain ⟨v, m4, l1, l2, l3, l4⟩ := yp_LC_wan (i4 k3) 93 (by omega)
    obtain ⟨rfl, l5⟩ := l3 k4
    have l1 : fX8_wants (yp_SH B) (B + 1) 93 m3 = some (yp_N 1, m4) := l1
    obtain ⟨y1, y2⟩ := l5.lay (j - 2, 0) len
    refine ⟨_, ?_, (i2.tr l2).tr y2, by rw [y1.2.1]; rfl, fun _ => y1⟩
    have l6 : m4 (B + 14) 2 = yp_N r2.2.2.1 := l5.2.2.1
    rw [yp_ctok67 h8 h9]
    have : j = 8 ∨ j = 9 := by omega
    rcases this with rfl | rfl
    · have x1 : fX4_lay (yp_SH B) (B + 14) 1105 m4 = some (yp_N 1, yp_layC B m4 r2.2.2.1 (yp_N 1105)) := yp_c_lay l6 (by omega) (yp_N 1105)
      rw [if_pos rfl, if_pos rfl]
      simp (disch := omega) only [fX4_readUnit_o, fX4_readUnit_j216, fX4_readUnit_j217, fX4_readUnit_j206, ↓yp_iP8, ↓yp_iP4, ↓yp_bdP e0, ↓yp_bdP e1, ↓yp_bdP e2, ↓yp_bdP e3, ↓yp_bdP d1, ↓yp_bdP yp_b1, ↓yp_bdP f1, ↓yp_bdP i1, ↓yp_bdP l1, ↓yp_bdP x1, yp_ck1, Nat.reduceAdd, Nat.reduceMul, Nat.reduceSub, Nat.zero_add, Nat.add_zero, yp_LT, yp_nA, yp_nM, yp_ltF, yp_ltT, yp_leF, yp_leT, yp_eqF, eq_self, yp_eqM, yp_lt1N, yp_sbN, yp_sb2N, ↓reduceIte, ↓yp_iP11, ↓yp_iP12, ↓yp_m0P]
    · have x1 : fX4_lay (yp_SH B) (B + 14) 1106 m4 = some (yp_N 1, yp_layC B m4 r2.2.2.1 (yp_N 1106)) := yp_c_lay l6 (by omega) (yp_N 1106)
      rw [if_pos rfl, if_neg (by decide)]
      simp (disch := omega) only [fX4_readUnit_o, fX4_readUnit_j216, fX4_readUnit_j217, fX4_readUnit_j206, ↓yp_iP8, ↓yp_iP4, ↓yp_bdP e0, ↓yp_bdP e1, ↓yp_bdP e2, ↓yp_bdP e3, ↓yp_bdP d1, ↓yp_bdP yp_b1, ↓yp_bdP f1, ↓yp_bdP i1, ↓yp_bdP l1, ↓yp_bdP x1, yp_ck1, Nat.reduceAdd, Nat.reduceMul, Nat.reduceSub, Nat.zero_add, Nat.add_zero, yp_LT, yp_nA, yp_nM, yp_ltF, yp_ltT, yp_leF, yp_leT, yp_eqF, eq_self, yp_eqM, yp_lt1N, yp_sbN, yp_sb2N, ↓reduceIte, ↓yp_iP11, ↓yp_iP12, ↓yp_m0P]
  · obtain ⟨b, m1, ma, m2, mb, m3, e0, g1, d1, yp_b1, f1, i1, i2, i3, i4⟩ := gM2 m hm
    obtain ⟨m4, l1, l2, l3, l4, l5⟩ := yp_LM_sg (i4 k3) 93 (by omega) (by omega)
    have l6 := (l5 k4).o o
    obtain ⟨y1, y2⟩ := l6.lay (j - 2, 0) len
    have x4 := yp_m_emit1 l6.2.1 l6.2.2.1 (show r2.2.2.1 < 150 by omega) (yp_N (j - 2)) (yp_N 0)
    refine ⟨_, ?_, ((i2.tr l2).tr (yp_Fr_7 _)).tr y2, ⟨⟨Nat.zero_le 3, Nat.zero_le 600⟩, .inl ⟨rfl, y1.2.1⟩⟩, fun _ => y1⟩
    show fX12_readUnit_o (yp_SH B) Sm (B + 517) m = _
    rw [e0]
    simp (disch := omega) only [fX12_readTwo_o, hM, ↓yp_opP g1, d1, yp_b1, f1, i1, l1, l4, so, x4, Nat.reduceAdd, Nat.reduceMul, Nat.reduceSub, Nat.zero_add, Nat.add_zero, yp_LT, yp_nA, yp_nM, yp_ltF, yp_ltT, yp_leF, yp_leT, yp_eqF, eq_self, yp_eqM, yp_lt1N, yp_sbN, yp_sb2N, ↓reduceIte, ↓yp_iP11, ↓yp_iP12, ↓yp_m0P]
end TWO

section UNIT2
variable {B : Nat} {t : Nat → Nat} {n : Nat}
set_option maxHeartbeats 1000000 in
theorem yp_wE_gt {p : Nat} (h : yp_widx yp_C2 (yp_wC t n p) < 10) : yp_sk t n p < yp_wE t n p := by
  have := yp_wE_ge t n p
  by_cases e : yp_wE t n p = yp_sk t n p
  · exfalso
    have q : yp_wC t n p = 0 := by unfold yp_wC; rw [e, Nat.sub_self, if_pos (by omega)]; rfl
    rw [q] at h
    exact absurd h (by decide)
  · omega
set_option maxHeartbeats 1000000 in
theorem yp_unit_x {Sm : Nat → Mem → Option Mem} {m : Mem} (h : ¬ m (B + 517) 5 = -yp_N 1) : fX12_readUnit_o (yp_SH B) Sm (B + 517) m = some m := by
  have f := yp_m_fine0 h
  simp (disch := omega) only [fX12_readUnit_o, ↓yp_opP f, Nat.reduceAdd, Nat.reduceMul, Nat.reduceSub, Nat.zero_add, Nat.add_zero, yp_LT, yp_nA, yp_nM, yp_ltF, yp_ltT, yp_leF, yp_leT, yp_eqF, eq_self, yp_eqM, yp_lt1N, yp_sbN, yp_sb2N, ↓reduceIte, ↓yp_iP11, ↓yp_iP12, ↓yp_m0P]
set_option maxHeartbeats 1000000 in
theorem yp_FL3 {m : Mem} {x : Nat} (h : yp_FL B m = (yp_N 0, -yp_N 1)) (k : Nat) (hk : k ≠ 0) : yp_FL B (yp_cF B m k x) = yp_FLk (k, x) := by
  rw [yp_FL_f, h, yp_ff0 rfl, yp_FLk_1 hk]
set_option maxHeartbeats 1000000 in
theorem yp_K_unit {S : yp_LwT → Option yp_LwR} {Sc : Nat → Nat → Int32 → Mem → Option (Int32 × Mem)} {Sm : Nat → Mem → Option Mem} {o d : Nat} (hn : n ≤ 150) (hd : o + d = 6) (hS : d ≠ 0 → yp_KU B t n (o + 1) S (fun m => Sc (B + 14) (B + 1) (yp_N (o + 1)) m) (fun m => Sm (B + 517) m)) (hX : ∀ m, ¬ m (B + 517) 5 = -yp_N 1 → Sm (B + 517) m = some m) : yp_KU B t n o (yp_unitO t n d S) (fun m => fX4_readUnit_o (yp_SH B) Sc (B + 14) (B + 1) (yp_N o) m) (fun m => fX12_readUnit_o (yp_SH B) Sm (B + 517) m) := by
  refine ⟨fun z h1 h2 => ?_, fun m h => yp_unit_x h⟩
  have hM := yp_mS B
  have hO := yp_ofS
  have hs := yp_sk_ge t n z.1
  have hs2 := yp_sk_le (t := t) h1
  have hw := yp_wE_ge t n z.1
  have hw2 := yp_wE_le (t := t) h1
  have he := yp_nE_ge t n z.1
  have he2 := yp_nE_le (t := t) h1
  unfold yp_unitO
  by_cases c1 : yp_sk t n z.1 < n ∧ yp_dg t (yp_sk t n z.1) = true
  · rw [if_pos c1]
    have dgs := yp_dg1.mp c1.2
    have goC : ∀ m, yp_LC B m t n z → fX8_next (yp_SH B) (B + 1) m = some (yp_N (yp_sk t n z.1), yp_cAt B m (yp_sk t n z.1)) ∧ fX8_seesDigit (yp_SH B) (B + 1) (yp_cAt B m (yp_sk t n z.1)) = some (yp_N 1, yp_cAt B m (yp_sk t n z.1)) ∧ fX8_number (yp_SH B) (B + 1) 0 999 (yp_cAt B m (yp_sk t n z.1)) = some (if yp_nK t n 0 1000 z.1 = 0 then yp_N (yp_nV t n z.1) else -yp_N 1, if yp_nK t n 0 1000 z.1 = 0 then yp_cAt B m (yp_nE t n z.1) else yp_cF B (yp_cAt B m (yp_nE t n z.1)) (yp_nK t n 0 1000 z.1) (yp_sk t n z.1)) := fun m hm => by
      have q := hm.1.at hs2
      have e1 := yp_c_seesD q
      rw [yp_sk_fix, yp_cAt2, if_pos c1] at e1
      have e2 := yp_c_number q 0 1000 (yp_N 999) (by rw [yp_tiN (by omega)]; omega) (by omega) (by omega)
      rw [yp_nK_sk, yp_nV_sk, yp_nE_sk, yp_sk_fix, yp_cAt2] at e2
      exact ⟨yp_c_next hm.1, e1, e2⟩
    have goM : ∀ m, yp_LM B m t n z o → fX12_here (yp_SH B) (B + 517) m = some (yp_N (t (yp_sk t n z.1)), yp_rAt B m (yp_sk t n z.1)) ∧ fX12_here (yp_SH B) (B + 517) (yp_rAt B m (yp_sk t n z.1)) = some (yp_N (t (yp_sk t n z.1)), yp_rAt B m (yp_sk t n z.1)) ∧ fX12_isDigit (yp_N (t (yp_sk t n z.1))) = some (yp_N 1) ∧ fX12_readNumber (yp_SH B) (B + 517) (yp_N 0) (yp_N 999) (yp_rAt B m (yp_sk t n z.1)) = some (if yp_nK t n 0 1000 z.1 = 0 then yp_N (yp_nV t n z.1) else yp_N 0, if yp_nK t n 0 1000 z.1 = 0 then yp_rAt B m (yp_nE t n z.1) else yp_rF B (yp_rAt B m (yp_nE t n z.1)) (yp_nK t n 0 1000 z.1) (yp_sk t n z.1)) := fun m hm => by
      have q := hm.1.at hs2
      have e1 := yp_m_here hm.1
      have e2 := yp_m_here q
      rw [yp_sk_fix, yp_rAt2, if_pos c1.1] at e2
      rw [if_pos c1.1] at e1
      have e3 := yp_isDm (t (yp_sk t n z.1)) (by omega)
      rw [if_pos dgs] at e3
      have e4 := yp_m_number q ((yp_rAt_n _ (by omega)).trans hm.2.1) 0 1000 (yp_N 999) (by rw [yp_tiN (by omega)]; omega) (by omega) (by omega)
      rw [yp_nK_sk, yp_nV_sk, yp_nE_sk, yp_sk_fix, yp_rAt2] at e4
      exact ⟨e1, e2, e3, e4⟩
    by_cases k : yp_nK t n 0 1000 z.1 = 0
    · rw [if_pos k]
      simp only [if_pos k] at goC goM
      obtain ⟨k1, k2, k3⟩ := yp_nK_0 k
      refine ⟨_, rfl, ⟨Nat.zero_le 3, Nat.zero_le 600⟩, fun _ => yp_PQ.val (by omega) he2 (.inl ⟨rfl, k3⟩), fun m hm => ?_, fun m hm => ?_⟩
      · obtain ⟨e0, e1, e2⟩ := goC m hm
        have g := hm.at (q := yp_nE t n z.1) (by omega) he2
        obtain ⟨y1, y2⟩ := g.lay (0, yp_nV t n z.1) (by show z.2.1 + 1 ≤ yp_nE t n z.1; omega)
        have x1 : fX4_lay (yp_SH B) (B + 14) (yp_N (yp_nV t n z.1)) (yp_cAt B m (yp_nE t n z.1)) = some (yp_N 1, yp_layC B (yp_cAt B m (yp_nE t n z.1)) z.2.1 (yp_ctok (0, yp_nV t n z.1))) := yp_c_lay g.2.2.1 (show z.2.1 < 151 by omega) (yp_N (yp_nV t n z.1))
        refine ⟨_, ?_, (yp_T35_lc (yp_Fr_at _)).tr y2, by rw [y1.2.1]; rfl, fun _ => y1⟩
        rw [if_pos rfl]
        simp (disch := omega) only [↓yp_lt1N, fX4_readUnit_o, fX4_readUnit_j216, fX4_readUnit_j217, fX4_readUnit_j206, fX4_readUnit_j41, fX4_readUnit_j42, fX4_readUnit_j92, fX4_readUnit_j82, ↓yp_iP8, ↓yp_iP4, ↓yp_bdP e0, ↓yp_bdP e1, ↓yp_bdP e2, ↓yp_bdP x1, yp_ck1, Nat.reduceAdd, Nat.reduceMul, Nat.reduceSub, Nat.zero_add, Nat.add_zero, yp_LT, yp_nA, yp_nM, yp_ltF, yp_ltT, yp_leF, yp_leT, yp_eqF, eq_self, yp_eqM, yp_lt1N, yp_sbN, yp_sb2N, ↓reduceIte, ↓yp_iP11, ↓yp_iP12, ↓yp_m0P]
      · obtain ⟨e1, e2, e3, e4⟩ := goM m hm
        have f0 := yp_m_fine1 hm.2.1
        have g := hm.at (q := yp_nE t n z.1) (by omega) he2
        obtain ⟨y1, y2⟩ := g.lay (0, yp_nV t n z.1) (by show z.2.1 + 1 ≤ yp_nE t n z.1; omega)
        have x1 := yp_m_emit1 g.2.1 g.2.2.1 (show z.2.1 < 150 by omega) (yp_N 0) (yp_N (yp_nV t n z.1))
        refine ⟨_, ?_, (yp_T46_lm (yp_Fr_rAt _)).tr y2, ⟨⟨Nat.zero_le 3, Nat.zero_le 600⟩, .inl ⟨rfl, y1.2.1⟩⟩, fun _ => y1⟩
        simp (disch := omega) only [fX12_readUnit_o, fX12_readUnit_j153, ↓yp_opP f0, ↓yp_bdP e1, ↓yp_bdP e2, ↓yp_opP e3, e4, x1, Nat.reduceAdd, Nat.reduceMul, Nat.reduceSub, Nat.zero_add, Nat.add_zero, yp_LT, yp_nA, yp_nM, yp_ltF, yp_ltT, yp_leF, yp_leT, yp_eqF, eq_self, yp_eqM, yp_lt1N, yp_sbN, yp_sb2N, ↓reduceIte, ↓yp_iP11, ↓yp_iP12, ↓yp_m0P]
    · rw [if_neg k]
      simp only [if_neg k] at goC goM
      refine ⟨_, rfl, yp_nKs_ok h1 (by omega) 0 1000, fun q => absurd q k, fun m hm => ?_, fun m hm => ?_⟩
      · obtain ⟨e0, e1, e2⟩ := goC m hm
        refine ⟨_, ?_, (yp_T35_lc (yp_Fr_at (yp_nE t n z.1))).tr (yp_T35_lc (yp_Fr_cF (yp_nK t n 0 1000 z.1) (yp_sk t n z.1))), yp_FL3 (by rw [yp_FL_at]; exact hm.2.1) _ k, fun q => absurd q k⟩
        rw [if_neg (show ¬ (yp_nK t n 0 1000 z.1, yp_sk t n z.1).1 = 0 from k)]
        simp (disch := omega) only [↓yp_lt1N, fX4_readUnit_o, fX4_readUnit_j216, fX4_readUnit_j217, fX4_readUnit_j206, fX4_readUnit_j41, fX4_readUnit_j42, fX4_readUnit_j92, fX4_readUnit_j82, ↓yp_iP8, ↓yp_iP4, ↓yp_bdP e0, ↓yp_bdP e1, ↓yp_bdP e2, yp_ck0, Nat.reduceAdd, Nat.reduceMul, Nat.reduceSub, Nat.zero_add, Nat.add_zero, yp_LT, yp_nA, yp_nM, yp_ltF, yp_ltT, yp_leF, yp_leT, yp_eqF, eq_self, yp_eqM, yp_lt1N, yp_sbN, yp_sb2N, ↓reduceIte, ↓yp_iP11, ↓yp_iP12, ↓yp_m0P]
      · obtain ⟨e1, e2, e3, e4⟩ := goM m hm
        have f0 := yp_m_fine1 hm.2.1
        have x1 := yp_m_emit0 (yp_rF_x (B := B) (m := yp_rAt B m (yp_nE t n z.1)) (k := yp_nK t n 0 1000 z.1) (x := yp_sk t n z.1) (by omega)) (yp_N 0) (yp_N 0)
        refine ⟨_, ?_, (yp_T46_lm (yp_Fr_rAt (yp_nE t n z.1))).tr (yp_T46_lm (yp_Fr_rF (yp_nK t n 0 1000 z.1) (yp_sk t n z.1))), ⟨yp_nKs_ok h1 (by omega) 0 1000, .inr ⟨k, yp_rF_5 _ _ _ _⟩⟩, fun q => absurd q k⟩
        simp (disch := omega) only [fX12_readUnit_o, fX12_readUnit_j153, ↓yp_opP f0, ↓yp_bdP e1, ↓yp_bdP e2, ↓yp_opP e3, e4, x1, Nat.reduceAdd, Nat.reduceMul, Nat.reduceSub, Nat.zero_add, Nat.add_zero, yp_LT, yp_nA, yp_nM, yp_ltF, yp_ltT, yp_leF, yp_leT, yp_eqF, eq_self, yp_eqM, yp_lt1N, yp_sbN, yp_sb2N, ↓reduceIte, ↓yp_iP11, ↓yp_iP12, ↓yp_m0P]
  · rw [if_neg c1]
    by_cases c2 : yp_sk t n z.1 < n ∧ t (yp_sk t n z.1) = 40
    · rw [if_pos c2]
      by_cases d0 : d = 0
      · rw [if_pos d0]
        have o6 : o = 6 := by omega
        subst o6
        refine ⟨_, rfl, ⟨(show 3 ≤ 3 by decide), by show yp_sk t n z.1 ≤ 600; omega⟩, fun q => absurd q (show ¬ (3 : Nat) = 0 by decide), fun m hm => ?_, fun m hm => ?_⟩
        · have q := hm.1.at hs2
          have e0 := yp_c_next hm.1
          have e1 := yp_c_seesD q
          rw [yp_sk_fix, yp_cAt2, if_neg c1] at e1
          have e2 := yp_c_takes1 q 40 (by omega) (by rw [yp_sk_fix]; exact c2)
          rw [yp_sk_fix, yp_cAt2] at e2
          have e2 : fX8_takes (yp_SH B) (B + 1) 40 (yp_cAt B m (yp_sk t n z.1)) = some (yp_N 1, yp_cAt B m (yp_sk t n z.1 + 1)) := e2
          have e3' := yp_c_fail B (yp_cAt B m (yp_sk t n z.1 + 1)) 3 (yp_sk t n z.1)
          have e3 : fX8_fail (yp_SH B) (B + 1) 3 (yp_N (yp_sk t n z.1)) (yp_cAt B m (yp_sk t n z.1 + 1)) = some (yp_N 0, yp_cF B (yp_cAt B m (yp_sk t n z.1 + 1)) 3 (yp_sk t n z.1)) := yp_c_fail B _ 3 (yp_sk t n z.1)
          refine ⟨_, ?_, (yp_T35_lc (yp_Fr_at (yp_sk t n z.1 + 1))).tr (yp_T35_lc (yp_Fr_cF 3 (yp_sk t n z.1))), yp_FL3 (by rw [yp_FL_at]; exact hm.2.1) 3 (by decide), fun q => absurd q (show ¬ (3 : Nat) = 0 by decide)⟩
          rw [if_neg (show ¬ (3, yp_sk t n z.1).1 = 0 from (show ¬ (3 : Nat) = 0 by decide))]
          simp (disch := omega) only [↓yp_lt1N, fX4_readUnit_o, fX4_readUnit_j216, fX4_readUnit_j217, fX4_readUnit_j206, fX4_readUnit_j41, fX4_readUnit_j42, fX4_readUnit_j92, fX4_readUnit_j82, ↓yp_iP8, ↓yp_iP4, ↓yp_bdP e0, ↓yp_bdP e1, ↓yp_bdP e2, ↓yp_bdP e3, e3', yp_ck0, Nat.reduceAdd, Nat.reduceMul, Nat.reduceSub, Nat.zero_add, Nat.add_zero, yp_LT, yp_nA, yp_nM, yp_ltF, yp_ltT, yp_leF, yp_leT, yp_eqF, eq_self, yp_eqM, yp_lt1N, yp_sbN, yp_sb2N, ↓reduceIte, ↓yp_iP11, ↓yp_iP12, ↓yp_m0P]
        · have f0 := yp_m_fine1 hm.2.1
          have e1 := yp_m_here hm.1
          rw [if_pos c2.1, c2.2] at e1
          have g := hm.at hs hs2
          have e2 := yp_m_open0 g (yp_N 1)
          have e2 : fX12_opensOne (yp_SH B) (B + 517) (yp_N 1) (yp_rAt B m (yp_sk t n z.1)) = some (up2 (yp_rF B (yp_rAt B m (yp_sk t n z.1)) 3 (yp_sk t n z.1)) (B + 517) 7 (yp_N 7)) := e2
          obtain ⟨m1, hm1⟩ : ∃ m1, m1 = up2 (yp_rF B (yp_rAt B m (yp_sk t n z.1)) 3 (yp_sk t n z.1)) (B + 517) 7 (yp_N 7) := ⟨_, rfl⟩
          rw [← hm1] at e2
          have r1 : yp_RS B m1 (3, yp_sk t n z.1) := by
            rw [hm1]
            exact yp_RS7 ⟨⟨(show 3 ≤ 3 by decide), by show yp_sk t n z.1 ≤ 600; omega⟩, .inr ⟨(show ¬ (3 : Nat) = 0 by decide), yp_rF_5 _ _ _ _⟩⟩ _
          have nf := r1.bad (show ¬ (3 : Nat) = 0 by decide)
          have x1 := hX m1 nf
          have x2 := yp_m_signX nf (yp_N 41)
          have F1 : yp_Fr (yp_TLm B) m m1 := by rw [hm1]; exact ((yp_T46_lm (yp_Fr_rAt _)).tr (yp_T46_lm (yp_Fr_rF _ _))).tr (yp_Fr_7 _)
          refine ⟨up2 m1 (B + 517) 7 (m1 (B + 517) 7 - yp_N 1), ?_, F1.tr (yp_Fr_7 _), yp_RS7 r1 _, fun q => absurd q (show ¬ (3 : Nat) = 0 by decide)⟩
          simp (disch := omega) only [fX12_readUnit_o, fX12_readUnit_j153, ↓yp_opP f0, ↓yp_bdP e1, e2, x1, x2, hM, Nat.reduceAdd, Nat.reduceMul, Nat.reduceSub, Nat.zero_add, Nat.add_zero, yp_LT, yp_nA, yp_nM, yp_ltF, yp_ltT, yp_leF, yp_leT, yp_eqF, eq_self, yp_eqM, yp_lt1N, yp_sbN, yp_sb2N, ↓reduceIte, ↓yp_iP11, ↓yp_iP12, ↓yp_m0P]
      · rw [if_neg d0]
        exact yp_K_par hn hd d0 (hS d0) z h1 h2 c1 c2
    · rw [if_neg c2]
      generalize hj : yp_widx yp_C2 (yp_wC t n z.1) = j
      have j10 : j ≤ 10 := by rw [← hj]; exact yp_widx_le yp_C2
      by_cases jn : j = 10
      · rw [if_pos jn]
        subst jn
        refine ⟨_, rfl, ⟨(show 1 ≤ 3 by decide), by show yp_sk t n z.1 ≤ 600; omega⟩, fun q => absurd q (show ¬ (1 : Nat) = 0 by decide), fun m hm => ?_, fun m hm => ?_⟩
        · obtain ⟨e0, e1, e2, e3⟩ := yp_c_pre hm c1 c2
          rw [hj] at e3
          rcases e3 with ⟨e3, _⟩ | ⟨_, e3⟩
          · omega
          · refine ⟨_, ?_, (yp_T35_lc (yp_Fr_at (yp_wE t n z.1))).tr (yp_T35_lc (yp_Fr_cF 1 (yp_sk t n z.1))), yp_FL3 (by rw [yp_FL_at]; exact hm.2.1) 1 (by decide), fun q => absurd q (show ¬ (1 : Nat) = 0 by decide)⟩
            rw [if_neg (show ¬ (1, yp_sk t n z.1).1 = 0 from (show ¬ (1 : Nat) = 0 by decide))]
            simp (disch := omega) only [↓yp_lt1N, fX4_readUnit_o, fX4_readUnit_j216, fX4_readUnit_j217, fX4_readUnit_j206, fX4_readUnit_j41, fX4_readUnit_j42, fX4_readUnit_j92, fX4_readUnit_j82, ↓yp_iP8, ↓yp_iP4, ↓yp_bdP e0, ↓yp_bdP e1, ↓yp_bdP e2, ↓yp_bdP e3, Nat.reduceAdd, Nat.reduceMul, Nat.reduceSub, Nat.zero_add, Nat.add_zero, yp_LT, yp_nA, yp_nM, yp_ltF, yp_ltT, yp_leF, yp_leT, yp_eqF, eq_self, yp_eqM, yp_lt1N, yp_sbN, yp_sb2N, ↓reduceIte, ↓yp_iP11, ↓yp_iP12, ↓yp_m0P]
        · have f0 := yp_m_fine1 hm.2.1
          obtain ⟨v, v1, v2, v3, v4, v5, v6⟩ := yp_m_pre hm c1 c2
          have wl := yp_wC_lt t n z.1
          obtain ⟨w8, w9⟩ := yp_w2_no hj
          have q := hm.1.at hs2
          have e2 := yp_m_fact0 q (by rw [yp_wC_sk, hj]; omega)
          rw [yp_sk_fix, yp_rAt2] at e2
          have c3 := q.1.2.1
          have x1 := yp_m_wrong1 (B := B) (m := yp_rAt B m (yp_sk t n z.1)) ((yp_rAt_n _ (by omega)).trans hm.2.1) 1 (yp_sk t n z.1)
          have x2 := yp_m_fine0 (yp_rF_x (B := B) (m := yp_rAt B m (yp_sk t n z.1)) (k := 1) (x := yp_sk t n z.1) (by omega))
          refine ⟨_, ?_, (yp_T46_lm (yp_Fr_rAt (yp_sk t n z.1))).tr (yp_T46_lm (yp_Fr_rF 1 (yp_sk t n z.1))), ⟨⟨(show 1 ≤ 3 by decide), by show yp_sk t n z.1 ≤ 600; omega⟩, .inr ⟨(show ¬ (1 : Nat) = 0 by decide), yp_rF_5 _ _ _ _⟩⟩, fun q => absurd q (show ¬ (1 : Nat) = 0 by decide)⟩
          simp (disch := omega) only [fX12_readUnit_o, fX12_readUnit_j153, fX12_readUnit_j135, ↓yp_opP f0, ↓yp_bdP v3, ↓yp_bdP v4, ↓yp_opP v5, ↓yp_bdP v6, hM, hO, e2, c3, x1, x2, Nat.reduceAdd, Nat.reduceMul, Nat.reduceSub, Nat.zero_add, Nat.add_zero, yp_LT, yp_nA, yp_nM, yp_ltF, yp_ltT, yp_leF, yp_leT, yp_eqF, eq_self, yp_eqM, yp_lt1N, yp_sbN, yp_sb2N, ↓reduceIte, ↓yp_iP11, ↓yp_iP12, ↓yp_m0P]
      · rw [if_neg jn]
        by_cases j8 : j < 8
        · rw [if_pos j8]
          have wg := yp_wE_gt (t := t) (n := n) (p := z.1) (by rw [hj]; omega)
          refine ⟨_, rfl, ⟨Nat.zero_le 3, Nat.zero_le 600⟩, fun _ => yp_PQ.val (by omega) hw2 (.inr ⟨rfl, j8⟩), fun m hm => ?_, fun m hm => ?_⟩
          · obtain ⟨e0, e1, e2, e3⟩ := yp_c_pre hm c1 c2
            rw [hj] at e3
            rcases e3 with ⟨_, e3⟩ | ⟨e3, _⟩
            · have g := hm.at (q := yp_wE t n z.1) (by omega) hw2
              obtain ⟨y1, y2⟩ := g.lay (1, j) (by show z.2.1 + 1 ≤ yp_wE t n z.1; omega)
              have x0 : yp_ctok (1, j) = 1000 + yp_N j := (show yp_ctok (1, j) = yp_N (1000 + j) from rfl).trans (yp_nA 1000 j).symm
              have x1 : fX4_lay (yp_SH B) (B + 14) (1000 + yp_N j) (yp_cAt B m (yp_wE t n z.1)) = some (yp_N 1, yp_layC B (yp_cAt B m (yp_wE t n z.1)) z.2.1 (yp_ctok (1, j))) := by rw [x0]; exact yp_c_lay g.2.2.1 (show z.2.1 < 151 by omega) (1000 + yp_N j)
              refine ⟨_, ?_, (yp_T35_lc (yp_Fr_at _)).tr y2, by rw [y1.2.1]; rfl, fun _ => y1⟩
              rw [if_pos rfl]
              simp (disch := omega) only [↓yp_lt1N, fX4_readUnit_o, fX4_readUnit_j216, fX4_readUnit_j217, fX4_readUnit_j206, fX4_readUnit_j41, fX4_readUnit_j42, fX4_readUnit_j92, fX4_readUnit_j82, ↓yp_iP8, ↓yp_iP4, ↓yp_bdP e0, ↓yp_bdP e1, ↓yp_bdP e2, ↓yp_bdP e3, ↓yp_bdP x1, yp_ck1, Nat.reduceAdd, Nat.reduceMul, Nat.reduceSub, Nat.zero_add, Nat.add_zero, yp_LT, yp_nA, yp_nM, yp_ltF, yp_ltT, yp_leF, yp_leT, yp_eqF, eq_self, yp_eqM, yp_lt1N, yp_sbN, yp_sb2N, ↓reduceIte, ↓yp_iP11, ↓yp_iP12, ↓yp_m0P]
            · omega
          · have f0 := yp_m_fine1 hm.2.1
            obtain ⟨v, v1, v2, v3, v4, v5, v6⟩ := yp_m_pre hm c1 c2
            have wl := yp_wC_lt t n z.1
            obtain ⟨w8, w9⟩ := yp_w2_lt (v := yp_wC t n z.1) (by rw [hj]; exact j8)
            have q := hm.1.at hs2
            have e2 := yp_m_fact1 q (by rw [yp_wC_sk, hj]; exact j8)
            rw [yp_sk_fix, yp_rAt2, yp_wC_sk, hj] at e2
            have f1 := yp_m_fine1 (B := B) (m := yp_rAt B m (yp_sk t n z.1)) ((yp_rAt_n _ (by omega)).trans hm.2.1)
            have x0 := yp_m_pass q
            rw [yp_rAt2] at x0
            have x0 : fX12_pass (yp_SH B) (B + 517) (yp_rAt B m (yp_sk t n z.1)) = some (yp_rAt B m (yp_wE t n z.1)) := x0
            have g := hm.at (q := yp_wE t n z.1) (by omega) hw2
            obtain ⟨y1, y2⟩ := g.lay (1, j) (by show z.2.1 + 1 ≤ yp_wE t n z.1; omega)
            have x1 := yp_m_emit1 g.2.1 g.2.2.1 (show z.2.1 < 150 by omega) (yp_N 1) (yp_N j)
            refine ⟨_, ?_, (yp_T46_lm (yp_Fr_rAt _)).tr y2, ⟨⟨Nat.zero_le 3, Nat.zero_le 600⟩, .inl ⟨rfl, y1.2.1⟩⟩, fun _ => y1⟩
            simp (disch := omega) only [fX12_readUnit_o, fX12_readUnit_j153, fX12_readUnit_j135, ↓yp_opP f0, ↓yp_bdP v3, ↓yp_bdP v4, ↓yp_opP v5, ↓yp_bdP v6, hM, hO, e2, f1, x0, x1, Nat.reduceAdd, Nat.reduceMul, Nat.reduceSub, Nat.zero_add, Nat.add_zero, yp_LT, yp_nA, yp_nM, yp_ltF, yp_ltT, yp_leF, yp_leT, yp_eqF, eq_self, yp_eqM, yp_lt1N, yp_sbN, yp_sb2N, ↓reduceIte, ↓yp_iP11, ↓yp_iP12, ↓yp_m0P]
        · rw [if_neg j8]
          by_cases d0 : d = 0
          · rw [if_pos d0]
            have o6 : o = 6 := by omega
            subst o6
            refine ⟨_, rfl, ⟨(show 3 ≤ 3 by decide), by show yp_sk t n z.1 ≤ 600; omega⟩, fun q => absurd q (show ¬ (3 : Nat) = 0 by decide), fun m hm => ?_, fun m hm => ?_⟩
            · obtain ⟨e0, e1, e2, e3⟩ := yp_c_pre hm c1 c2
              rw [hj] at e3
              rcases e3 with ⟨_, e3⟩ | ⟨e3, _⟩
              · have e4' := yp_c_fail B (yp_cAt B m (yp_wE t n z.1)) 3 (yp_sk t n z.1)
                have e4 : fX8_fail (yp_SH B) (B + 1) 3 (yp_N (yp_sk t n z.1)) (yp_cAt B m (yp_wE t n z.1)) = some (yp_N 0, yp_cF B (yp_cAt B m (yp_wE t n z.1)) 3 (yp_sk t n z.1)) := yp_c_fail B _ 3 (yp_sk t n z.1)
                refine ⟨_, ?_, (yp_T35_lc (yp_Fr_at (yp_wE t n z.1))).tr (yp_T35_lc (yp_Fr_cF 3 (yp_sk t n z.1))), yp_FL3 (by rw [yp_FL_at]; exact hm.2.1) 3 (by decide), fun q => absurd q (show ¬ (3 : Nat) = 0 by decide)⟩
                rw [if_neg (show ¬ (3, yp_sk t n z.1).1 = 0 from (show ¬ (3 : Nat) = 0 by decide))]
                simp (disch := omega) only [↓yp_lt1N, fX4_readUnit_o, fX4_readUnit_j216, fX4_readUnit_j217, fX4_readUnit_j206, fX4_readUnit_j41, fX4_readUnit_j42, fX4_readUnit_j92, fX4_readUnit_j82, ↓yp_iP8, ↓yp_iP4, ↓yp_bdP e0, ↓yp_bdP e1, ↓yp_bdP e2, ↓yp_bdP e3, ↓yp_bdP e4, e4', yp_ck0, Nat.reduceAdd, Nat.reduceMul, Nat.reduceSub, Nat.zero_add, Nat.add_zero, yp_LT, yp_nA, yp_nM, yp_ltF, yp_ltT, yp_leF, yp_leT, yp_eqF, eq_self, yp_eqM, yp_lt1N, yp_sbN, yp_sb2N, ↓reduceIte, ↓yp_iP11, ↓yp_iP12, ↓yp_m0P]
              · omega
            · obtain ⟨b, yp_b1, b2, b3⟩ := yp_m_pre89 (Sm := Sm) hm c1 c2 j hj (by omega) (by omega)
              have g := hm.at hs hs2
              have e2 := yp_m_open0 g (yp_N b)
              have e2 : fX12_opensOne (yp_SH B) (B + 517) (yp_N b) (yp_rAt B m (yp_sk t n z.1)) = some (up2 (yp_rF B (yp_rAt B m (yp_sk t n z.1)) 3 (yp_sk t n z.1)) (B + 517) 7 (yp_N 7)) := e2
              obtain ⟨m1, hm1⟩ : ∃ m1, m1 = up2 (yp_rF B (yp_rAt B m (yp_sk t n z.1)) 3 (yp_sk t n z.1)) (B + 517) 7 (yp_N 7) := ⟨_, rfl⟩
              rw [← hm1] at e2
              have r1 : yp_RS B m1 (3, yp_sk t n z.1) := by
                rw [hm1]
                exact yp_RS7 ⟨⟨(show 3 ≤ 3 by decide), by show yp_sk t n z.1 ≤ 600; omega⟩, .inr ⟨(show ¬ (3 : Nat) = 0 by decide), yp_rF_5 _ _ _ _⟩⟩ _
              have nf := r1.bad (show ¬ (3 : Nat) = 0 by decide)
              have x1 := hX m1 nf
              have x2 := yp_m_signX nf (yp_N 91)
              have x3 := yp_m_signX nf (yp_N 44)
              have x4 := yp_m_signX nf (yp_N 93)
              have x5 := yp_m_emit0 (B := B) (m := up2 m1 (B + 517) 7 (m1 (B + 517) 7 - yp_N 1)) (by rw [yp_up2_n _ _ (by omega)]; exact nf) (yp_N (j - 2)) (yp_N 0)
              have F1 : yp_Fr (yp_TLm B) m m1 := by rw [hm1]; exact ((yp_T46_lm (yp_Fr_rAt _)).tr (yp_T46_lm (yp_Fr_rF _ _))).tr (yp_Fr_7 _)
              refine ⟨up2 m1 (B + 517) 7 (m1 (B + 517) 7 - yp_N 1), ?_, F1.tr (yp_Fr_7 _), yp_RS7 r1 _, fun q => absurd q (show ¬ (3 : Nat) = 0 by decide)⟩
              show fX12_readUnit_o (yp_SH B) Sm (B + 517) m = _
              rw [b3]
              simp (disch := omega) only [fX12_readTwo_o, hM, e2, x1, x2, x3, x4, x5, Nat.reduceAdd, Nat.reduceMul, Nat.reduceSub, Nat.zero_add, Nat.add_zero, yp_LT, yp_nA, yp_nM, yp_ltF, yp_ltT, yp_leF, yp_leT, yp_eqF, eq_self, yp_eqM, yp_lt1N, yp_sbN, yp_sb2N, ↓reduceIte, ↓yp_iP11, ↓yp_iP12, ↓yp_m0P]
          · rw [if_neg d0]
            exact yp_K_two hn hd d0 (hS d0) z h1 h2 c1 c2 j hj (by omega) (by omega)
end UNIT2

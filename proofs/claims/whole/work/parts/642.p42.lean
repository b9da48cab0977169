set_option maxHeartbeats 1000000 in
theorem yp_widx_get {v : Nat} : ∀ (C : List Nat) (j : Nat), yp_widx C v = j → j < C.length → v = C.getD j 0 := by
  intro C
  induction C with
  | nil => intro j _ h; exact absurd h (Nat.not_lt_zero j)
  | cons c cs ih =>
    intro j h hj
    by_cases e : v = c
    · have h2 : yp_widx (c :: cs) v = 0 := if_pos e
      rw [h2] at h
      rw [← h]
      exact e
    · have h2 : yp_widx (c :: cs) v = yp_widx cs v + 1 := if_neg e
      rw [h2] at h
      rw [← h] at hj ⊢
      exact ih (yp_widx cs v) rfl (Nat.lt_of_succ_lt_succ hj)
set_option maxHeartbeats 1000000 in
theorem yp_widx_le {v : Nat} : ∀ (C : List Nat), yp_widx C v ≤ C.length := by
  intro C
  induction C with
  | nil => exact Nat.le_refl 0
  | cons c cs ih =>
    show (if v = c then 0 else yp_widx cs v + 1) ≤ cs.length + 1
    split <;> omega
set_option maxHeartbeats 1000000 in
theorem yp_w1_no {v : Nat} (h : yp_widx yp_C1 v = 3) : v ≠ 206975479 ∧ v ≠ 7734899 ∧ v ≠ 755084 := by
  refine ⟨fun e => ?_, fun e => ?_, fun e => ?_⟩ <;> (rw [e] at h; exact absurd h (by decide))
set_option maxHeartbeats 1000000 in
theorem yp_wC_lt (t : Nat → Nat) (n p : Nat) : yp_wC t n p < 1073741824 := by
  unfold yp_wC
  split
  · rename_i h
    have in1 : ∀ i, i < yp_wE t n p - yp_sk t n p → t (yp_sk t n p + i) ≤ 122 := fun i hi => (yp_sl1.mp (yp_run_in (P := yp_sl t) (n := n) (p := yp_sk t n p) (by omega) (show yp_sk t n p + i < yp_wE t n p by omega))).2
    have h1 := yp_cd_lt in1
    have h2 : 32 ^ (yp_wE t n p - yp_sk t n p) ≤ 32 ^ 6 := Nat.pow_le_pow_right (by omega) h
    have h3 : (32 : Nat) ^ 6 = 1073741824 := by decide
    omega
  · omega
section CLG2
variable {B : Nat} {m : Mem} {t : Nat → Nat} {n p : Nat}
set_option maxHeartbeats 1000000 in
theorem yp_c_clause (z : yp_ClT) (h : yp_CT B m t n z.1) (hf : yp_FL B m = (yp_N 0, -yp_N 1)) (hI : yp_clI z) (hC : yp_clC B m z.2.2) : ∃ m', fX1_readClause (yp_SH B) (B + 7) (B + 1) (yp_N z.2.1) (yp_cAt B m (yp_sk t n z.1)) = some m' ∧ yp_Fr (yp_TCl B) m m' ∧ yp_FL B m' = yp_FLk (yp_clG t n z) ∧ ((yp_clG t n z).1 = 0 → yp_CT B m' t n (yp_clN t n z).1 ∧ yp_clC B m' (yp_clN t n z).2.2) := by
  have hT := yp_tapS B
  have hS := yp_cspS B
  have hpn := h.2.2.1
  have hn := h.2.1
  have hq := h.at (yp_sk_le (t := t) hpn)
  have e0 := yp_c_next hq
  rw [yp_sk_fix, yp_cAt2] at e0
  have i1 := hI.1
  have i2 := hI.2.1
  have i3 := hI.2.2.1
  rcases yp_c_word yp_ws1 hq with ⟨w1, w2⟩ | ⟨w1, w2⟩
  · rw [yp_wC_sk] at w1 w2
    rw [yp_wE_sk, yp_cAt2] at w2
    have hle := yp_wE_le (t := t) hpn
    have hr := h.at hle
    have hf2 : yp_FL B (yp_cAt B m (yp_wE t n z.1)) = (yp_N 0, -yp_N 1) := by rw [yp_FL_at]; exact hf
    have hC2 : yp_clC B (yp_cAt B m (yp_wE t n z.1)) z.2.2 := hC.fr (fun a j q => yp_cAt_n _ (by omega))
    have b3 := hC2.1
    have b4 := hC2.2.1
    have F2 : yp_Fr (yp_TCl B) m (yp_cAt B m (yp_wE t n z.1)) := yp_T35_cl (yp_Fr_at _)
    unfold yp_clG yp_clN
    generalize hjj : yp_widx yp_C1 (yp_wC t n z.1) = j at w1 w2
    have w1 : j < 3 := w1
    rw [if_neg (show ¬ j = 3 by omega)]
    by_cases hx : z.2.1 = 60 ∨ (j = 0 ∧ z.2.2.1.1 = 6) ∨ (j = 1 ∧ z.2.2.1.2.1 = 8)
    · rw [if_pos hx]
      have e1 := yp_c_fail B (yp_cAt B m (yp_wE t n z.1)) 3 (yp_sk t n z.1)
      refine ⟨yp_cF B (yp_cAt B m (yp_wE t n z.1)) 3 (yp_sk t n z.1), ?_, F2.tr (yp_T35_cl (yp_Fr_cF _ _)), ?_, fun q => absurd q (show ¬ (3 : Nat) = 0 by decide)⟩
      · by_cases x1 : z.2.1 = 60
        · simp (disch := omega) only [fX1_readClause, fX1_readClause_j55, hT, hS, e0, w2, x1, e1, Nat.reduceAdd, Nat.reduceMul, Nat.reduceSub, Nat.zero_add, Nat.add_zero, yp_LT, yp_nA, yp_nM, yp_ltF, yp_ltT, yp_leF, yp_leT, yp_eqF, eq_self, yp_eqM, yp_lt1N, yp_sbN, yp_sb2N, ↓reduceIte, ↓yp_iP11, ↓yp_iP12, ↓yp_m0P]
        · rcases hx with x2 | ⟨rfl, x2⟩ | ⟨rfl, x2⟩
          · exact absurd x2 x1
          · rw [x2] at b3
            simp (disch := omega) only [fX1_readClause, fX1_readClause_j55, hT, hS, e0, w2, b3, e1, Nat.reduceAdd, Nat.reduceMul, Nat.reduceSub, Nat.zero_add, Nat.add_zero, yp_LT, yp_nA, yp_nM, yp_ltF, yp_ltT, yp_leF, yp_leT, yp_eqF, eq_self, yp_eqM, yp_lt1N, yp_sbN, yp_sb2N, ↓reduceIte, ↓yp_iP11, ↓yp_iP12, ↓yp_m0P]
          · rw [x2] at b4
            simp (disch := omega) only [fX1_readClause, fX1_readClause_j40, fX1_readClause_j55, hT, hS, e0, w2, b4, e1, Nat.reduceAdd, Nat.reduceMul, Nat.reduceSub, Nat.zero_add, Nat.add_zero, yp_LT, yp_nA, yp_nM, yp_ltF, yp_ltT, yp_leF, yp_leT, yp_eqF, eq_self, yp_eqM, yp_lt1N, yp_sbN, yp_sb2N, ↓reduceIte, ↓yp_iP11, ↓yp_iP12, ↓yp_m0P]
      · rw [yp_FL_f, hf2, yp_ff0 rfl]
        rfl
    · rw [if_neg hx]
      obtain ⟨m', g1, g2, g3, g4⟩ := yp_c_body hr hf2 z hI hC2 j w1 (fun q => hx (.inr q))
      refine ⟨m', ?_, F2.tr g2, g3, g4⟩
      have x1 : z.2.1 < 60 := by omega
      have : j = 0 ∨ j = 1 ∨ j = 2 := by omega
      rcases this with rfl | rfl | rfl
      · have x2 : z.2.2.1.1 < 6 := by omega
        simp (disch := omega) only [fX1_readClause, fX1_readClause_j40, hT, hS, e0, w2, b3, g1, Nat.reduceAdd, Nat.reduceMul, Nat.reduceSub, Nat.zero_add, Nat.add_zero, yp_LT, yp_nA, yp_nM, yp_ltF, yp_ltT, yp_leF, yp_leT, yp_eqF, eq_self, yp_eqM, yp_lt1N, yp_sbN, yp_sb2N, ↓reduceIte, ↓yp_iP11, ↓yp_iP12, ↓yp_m0P]
      · have x2 : z.2.2.1.2.1 < 8 := by omega
        simp (disch := omega) only [fX1_readClause, fX1_readClause_j40, hT, hS, e0, w2, b4, g1, Nat.reduceAdd, Nat.reduceMul, Nat.reduceSub, Nat.zero_add, Nat.add_zero, yp_LT, yp_nA, yp_nM, yp_ltF, yp_ltT, yp_leF, yp_leT, yp_eqF, eq_self, yp_eqM, yp_lt1N, yp_sbN, yp_sb2N, ↓reduceIte, ↓yp_iP11, ↓yp_iP12, ↓yp_m0P]
      · simp (disch := omega) only [fX1_readClause, fX1_readClause_j40, hT, hS, e0, w2, g1, Nat.reduceAdd, Nat.reduceMul, Nat.reduceSub, Nat.zero_add, Nat.add_zero, yp_LT, yp_nA, yp_nM, yp_ltF, yp_ltT, yp_leF, yp_leT, yp_eqF, eq_self, yp_eqM, yp_lt1N, yp_sbN, yp_sb2N, ↓reduceIte, ↓yp_iP11, ↓yp_iP12, ↓yp_m0P]
  · rw [yp_wC_sk] at w1
    rw [yp_wE_sk, yp_cAt2, yp_sk_fix] at w2
    have w1 : yp_widx yp_C1 (yp_wC t n z.1) = 3 := w1
    refine ⟨yp_cF B (yp_cAt B m (yp_wE t n z.1)) 1 (yp_sk t n z.1), ?_, (yp_T35_cl (yp_Fr_at _)).tr (yp_T35_cl (yp_Fr_cF _ _)), ?_, fun q => absurd w1 (yp_clG_0 q).1⟩
    · simp (disch := omega) only [fX1_readClause, hT, e0, w2, Nat.reduceAdd, Nat.reduceMul, Nat.reduceSub, Nat.zero_add, Nat.add_zero, yp_LT, yp_nA, yp_nM, yp_ltF, yp_ltT, yp_leF, yp_leT, yp_eqF, eq_self, yp_eqM, yp_lt1N, yp_sbN, yp_sb2N, ↓reduceIte, ↓yp_iP11, ↓yp_iP12, ↓yp_m0P]
    · rw [yp_FL_f, yp_FL_at, hf, yp_ff0 rfl]
      unfold yp_clG
      rw [if_pos w1]
      rfl
set_option maxHeartbeats 1000000 in
theorem yp_clN_p {z : yp_ClT} (hp : z.1 ≤ n) (hn : n ≤ 600) (h : (yp_clG t n z).1 = 0) : z.1 < (yp_clN t n z).1 ∧ (yp_clN t n z).1 ≤ n := by
  have h3 := (yp_fa0 (yp_clG_0 h).2.2).2.1
  have h4 := yp_sgk0 h3
  have a := yp_sk_ge t n z.1
  have b := yp_wE_ge t n z.1
  have c := yp_clB_le (t := t) (n := n) (z := z) (j := yp_widx yp_C1 (yp_wC t n z.1)) (yp_wE_le (t := t) hp) hn
  have d := yp_sk_ge t n (yp_clB t n z (yp_widx yp_C1 (yp_wC t n z.1)) (yp_wE t n z.1)).2.1
  show z.1 < yp_sk t n (yp_clB t n z (yp_widx yp_C1 (yp_wC t n z.1)) (yp_wE t n z.1)).2.1 + 1 ∧ yp_sk t n (yp_clB t n z (yp_widx yp_C1 (yp_wC t n z.1)) (yp_wE t n z.1)).2.1 + 1 ≤ n
  omega
def yp_clQ (B : Nat) (mm : Mem) (x : Mem ⊕ Mem) (y : Nat × Nat × yp_ClT) : Prop := yp_fok (y.1, y.2.1) ∧ yp_clI y.2.2 ∧ ((y.1 = 0 ∧ ∃ m, x = .inr m ∧ yp_Fr (yp_TCl B) mm m ∧ yp_FL B m = (yp_N 0, -yp_N 1) ∧ yp_clC B m y.2.2.2.2) ∨ (y.1 ≠ 0 ∧ ∃ m, x = .inl m ∧ yp_Fr (yp_TCl B) mm m ∧ yp_FL B m = (yp_N y.1, yp_N y.2.1)))
set_option maxHeartbeats 1000000 in
theorem yp_c_clread {mm : Mem} (z0 : yp_ClT) (h0 : z0.1 = 0) (h : yp_CT B mm t n 0) (hf : yp_FL B mm = (yp_N 0, -yp_N 1)) (hI : yp_clI z0) (hC : yp_clC B mm z0.2.2) : ∃ x y, loopN (fun st : Int32 × Mem => fX1_read_b26 (yp_SH B) (B + 7) (B + 1) st.1 st.2) FU (yp_N z0.2.1, mm) = some x ∧ loopN (fun z : yp_ClT => some (yp_clS t n z)) FU z0 = some y ∧ yp_clQ B mm x y := by
  have hT := yp_tapS B
  have hS := yp_cspS B
  have hn := h.2.1
  refine yp_lpSim (step := fun st : Int32 × Mem => fX1_read_b26 (yp_SH B) (B + 7) (B + 1) st.1 st.2) (ps := fun z : yp_ClT => some (yp_clS t n z)) (fun s z => ∃ m, s = (yp_N z.2.1, m) ∧ yp_CT B m t n z.1 ∧ yp_FL B m = (yp_N 0, -yp_N 1) ∧ yp_clI z ∧ yp_clC B m z.2.2 ∧ yp_Fr (yp_TCl B) mm m) (yp_clQ B mm) (fun z => n + 1 - z.1) (fun s z hR => ?_) FU (yp_N z0.2.1, mm) z0 (by rw [yp_FUe]; show n + 1 - z0.1 < 8000; omega) ⟨mm, rfl, by rw [h0]; exact h, hf, hI, hC, yp_Fr.rf⟩
  obtain ⟨m, rfl, r1, r2, r3, r4, r5⟩ := hR
  have e0 := yp_c_ended r1
  have i1 := r3.1
  have hpn := r1.2.2.1
  by_cases k0 : yp_sk t n z.1 < n
  · rw [if_pos k0] at e0
    obtain ⟨m', e1, e2, e3, e4⟩ := yp_c_clause z r1 r2 r3 r4
    have bs : yp_clS t n z = if (yp_clG t n z).1 = 0 then .inl (yp_clN t n z) else .inr ((yp_clG t n z).1, (yp_clG t n z).2, z) := if_pos k0
    by_cases k1 : (yp_clG t n z).1 = 0
    · rw [if_pos k1] at bs
      obtain ⟨g1, g2⟩ := e4 k1
      have g3 : yp_FL B m' = (yp_N 0, -yp_N 1) := by rw [e3, yp_FLk_0 k1]
      have f1 := (yp_c_whole B m').1 (congrArg Prod.fst g3)
      have g4 := yp_clN_p hpn hn k1
      refine .inl ⟨(yp_N (z.2.1 + 1), m'), yp_clN t n z, ?_, congrArg some bs, ⟨m', rfl, g1, g3, yp_clN_I r3 k1, g2, r5.tr e2⟩, by show n + 1 - (yp_clN t n z).1 < n + 1 - z.1; omega⟩
      simp (disch := omega) only [fX1_read_b26, hT, hS, e0, e1, f1, Nat.reduceAdd, Nat.reduceMul, Nat.reduceSub, Nat.zero_add, Nat.add_zero, yp_LT, yp_nA, yp_nM, yp_ltF, yp_ltT, yp_leF, yp_leT, yp_eqF, eq_self, yp_eqM, yp_lt1N, yp_sbN, yp_sb2N, ↓reduceIte, ↓yp_iP11, ↓yp_iP12, ↓yp_m0P]
    · rw [if_neg k1] at bs
      have g0 := yp_clG_ok (t := t) hpn hn
      have g3 : yp_FL B m' = (yp_N (yp_clG t n z).1, yp_N (yp_clG t n z).2) := by rw [e3, yp_FLk_1 k1]
      have f1 := (yp_c_whole B m').2 (by
        have : m' (B + 1) 4 = yp_N (yp_clG t n z).1 := congrArg Prod.fst g3
        rw [this, yp_eqN (by have := g0.1; omega) (by omega)]; exact k1)
      refine .inr ⟨.inl m', _, ?_, congrArg some bs, g0, r3, .inr ⟨k1, m', rfl, r5.tr e2, g3⟩⟩
      simp (disch := omega) only [fX1_read_b26, hT, hS, e0, e1, f1, Nat.reduceAdd, Nat.reduceMul, Nat.reduceSub, Nat.zero_add, Nat.add_zero, yp_LT, yp_nA, yp_nM, yp_ltF, yp_ltT, yp_leF, yp_leT, yp_eqF, eq_self, yp_eqM, yp_lt1N, yp_sbN, yp_sb2N, ↓reduceIte, ↓yp_iP11, ↓yp_iP12, ↓yp_m0P]
  · rw [if_neg k0] at e0
    have bs : yp_clS t n z = .inr (0, 0, z) := if_neg k0
    refine .inr ⟨.inr (yp_cAt B m (yp_sk t n z.1)), _, ?_, congrArg some bs, ⟨Nat.zero_le 3, Nat.zero_le 600⟩, r3, .inl ⟨rfl, _, rfl, r5.tr (yp_T35_cl (yp_Fr_at _)), by rw [yp_FL_at]; exact r2, r4.fr (fun a j q => yp_cAt_n _ (by omega))⟩⟩
    simp (disch := omega) only [fX1_read_b26, hT, hS, e0, Nat.reduceAdd, Nat.reduceMul, Nat.reduceSub, Nat.zero_add, Nat.add_zero, yp_LT, yp_nA, yp_nM, yp_ltF, yp_ltT, yp_leF, yp_leT, yp_eqF, eq_self, yp_eqM, yp_lt1N, yp_sbN, yp_sb2N, ↓reduceIte, ↓yp_iP11, ↓yp_iP12, ↓yp_m0P]
def yp_TCm (B : Nat) : Nat → Nat → Prop := fun a j => (a = B + 517 ∧ (j = 4 ∨ j = 5 ∨ j = 6 ∨ j = 14 ∨ j = 15 ∨ j = 16)) ∨ a = B + 520 ∨ a = B + 521
def yp_clM (B : Nat) (m : Mem) (d : (Nat × Nat × Nat) × (Nat → Nat) × (Nat → Nat × Nat)) : Prop := m (B + 517) 14 = yp_N d.1.1 ∧ m (B + 517) 15 = yp_N d.1.2.1 ∧ m (B + 517) 16 = yp_N d.1.2.2 ∧ (∀ l, l < d.1.1 * 7 → m (B + 520) l = yp_N (d.2.1 l)) ∧ (∀ g, g < d.1.2.1 → m (B + 521) (2 * g) = yp_N (d.2.2 g).1 ∧ m (B + 521) (2 * g + 1) = yp_N (d.2.2 g).2)
set_option maxHeartbeats 1000000 in
theorem yp_clM.fr {m' : Mem} {d : (Nat × Nat × Nat) × (Nat → Nat) × (Nat → Nat × Nat)} (h : yp_clM B m d) (hf : ∀ a j, (a = B + 517 ∧ (j = 14 ∨ j = 15 ∨ j = 16)) ∨ a = B + 520 ∨ a = B + 521 → m' a j = m a j) : yp_clM B m' d :=
  ⟨(hf _ _ (by omega)).trans h.1, (hf _ _ (by omega)).trans h.2.1, (hf _ _ (by omega)).trans h.2.2.1, fun l hl => (hf _ _ (by omega)).trans (h.2.2.2.1 l hl), fun g hg => ⟨(hf _ _ (by omega)).trans (h.2.2.2.2 g hg).1, (hf _ _ (by omega)).trans (h.2.2.2.2 g hg).2⟩⟩
set_option maxHeartbeats 1000000 in
theorem yp_mspS (B : Nat) : rR (yp_SH B) 12 (B + 517) 10 = some (B + 520) ∧ rR (yp_SH B) 12 (B + 517) 11 = some (B + 521) ∧ rR (yp_SH B) 12 (B + 517) 12 = some (B + 522) ∧ rR (yp_SH B) 12 (B + 517) 13 = some (B + 523) ∧ (∀ mm k v, k < 42 → aS (yp_SH B) mm (B + 520) (yp_N k) v = some (up2 mm (B + 520) k v)) ∧ (∀ mm k v, k < 16 → aS (yp_SH B) mm (B + 521) (yp_N k) v = some (up2 mm (B + 521) k v)) ∧ (∀ mm k, k < 42 → aL (yp_SH B) mm (B + 522) (yp_N k) = some (mm (B + 522) k)) := by
  refine ⟨?_, ?_, ?_, ?_, fun mm k v h => yp_aSN (yp_sa520 B) mm k v h (by omega), fun mm k v h => yp_aSN (yp_sa521 B) mm k v h (by omega), fun mm k h => yp_aLN (yp_sa522 B) mm k h (by omega)⟩
  all_goals (rw [rR, yp_so517]; rfl)
set_option maxHeartbeats 1000000 in
theorem yp_T46_cm {m' : Mem} (h : yp_Fr (yp_T46 B) m m') : yp_Fr (yp_TCm B) m m' := h.mono (fun a j q => by unfold yp_T46 at q; unfold yp_TCm; omega)
set_option maxHeartbeats 1000000 in
theorem yp_m_rdF (h : yp_RT B m t n p) (hf : m (B + 517) 5 = -yp_N 1) (nf : Nat) (hnf : nf < 6) (h3 : m (B + 517) 14 = yp_N nf) : ∃ m', loopN (fun st : Int32 × Mem => fX12_readRow_b11 (yp_SH B) (B + 517) st.1 st.2) FU (yp_N 0, m) = some m' ∧ (∀ a j, ¬ (a = B + 517 ∧ (j = 4 ∨ j = 5 ∨ j = 6)) → ¬ (a = B + 520) → m' a j = m a j) ∧ yp_RS B m' (yp_fk t n p 7) ∧ ((yp_fk t n p 7).1 = 0 → yp_RT B m' t n (yp_pk t n p 7) ∧ ∀ l, l < 42 → m' (B + 520) l = if nf * 7 ≤ l ∧ l < nf * 7 + 7 then yp_N (yp_nV t n (yp_pk t n p (l - nf * 7))) else m (B + 520) l) := by
  have hM := yp_mS B
  have hS := yp_mspS B
  have hpn := h.2.2.1
  have hn := h.2.1
  refine yp_lpI (step := fun st : Int32 × Mem => fX12_readRow_b11 (yp_SH B) (B + 517) st.1 st.2) (fun k st => ∃ m1, st = (yp_N k, m1) ∧ (∀ a j, ¬ (a = B + 517 ∧ (j = 4 ∨ j = 5 ∨ j = 6)) → ¬ (a = B + 520) → m1 a j = m a j) ∧ yp_RS B m1 (yp_fk t n p k) ∧ ((yp_fk t n p k).1 = 0 → yp_RT B m1 t n (yp_pk t n p k) ∧ ∀ l, l < 42 → m1 (B + 520) l = if nf * 7 ≤ l ∧ l < nf * 7 + k then yp_N (yp_nV t n (yp_pk t n p (l - nf * 7))) else m (B + 520) l)) (fun m1 => (∀ a j, ¬ (a = B + 517 ∧ (j = 4 ∨ j = 5 ∨ j = 6)) → ¬ (a = B + 520) → m1 a j = m a j) ∧ yp_RS B m1 (yp_fk t n p 7) ∧ ((yp_fk t n p 7).1 = 0 → yp_RT B m1 t n (yp_pk t n p 7) ∧ ∀ l, l < 42 → m1 (B + 520) l = if nf * 7 ≤ l ∧ l < nf * 7 + 7 then yp_N (yp_nV t n (yp_pk t n p (l - nf * 7))) else m (B + 520) l)) 7 (fun k st hk hJ => ?_) (show 7 < FU by rw [yp_FUe]; omega) (s0 := (yp_N 0, m)) ⟨m, rfl, fun _ _ _ _ => rfl, ⟨⟨Nat.zero_le 3, Nat.zero_le 600⟩, .inl ⟨rfl, hf⟩⟩, fun _ => ⟨h, fun l hl => by rw [if_neg (by omega)]⟩⟩
  obtain ⟨m1, rfl, j1, j2, j3⟩ := hJ
  by_cases e : k = 7
  · subst e
    exact .inr ⟨m1, by simp (disch := omega) only [fX12_readRow_b11, Nat.reduceAdd, Nat.reduceMul, Nat.reduceSub, Nat.zero_add, Nat.add_zero, yp_LT, yp_nA, yp_nM, yp_ltF, yp_ltT, yp_leF, yp_leT, yp_eqF, eq_self, yp_eqM, yp_lt1N, yp_sbN, yp_sb2N, ↓reduceIte, ↓yp_iP11, ↓yp_iP12, ↓yp_m0P], j1, j2, j3⟩
  · have yp_b1 : m1 (B + 517) 14 = yp_N nf := (j1 _ _ (by omega) (by omega)).trans h3
    obtain ⟨v, m2, a1, a2, a3, a4⟩ := yp_r_num j2 (fun q => (j3 q).1) (yp_pk_le hpn k) hn 0 41 (yp_N 40) (by rw [yp_tiN (by omega)]; omega) (by omega) (by omega)
    refine .inl ⟨by omega, (yp_N (k + 1), up2 m2 (B + 520) (7 * nf + k) v), ?_, _, rfl, fun a j q1 q2 => ?_, ?_, fun q => ?_⟩
    · simp (disch := omega) only [fX12_readRow_b11, hM, hS, yp_b1, a1, Nat.reduceAdd, Nat.reduceMul, Nat.reduceSub, Nat.zero_add, Nat.add_zero, yp_LT, yp_nA, yp_nM, yp_ltF, yp_ltT, yp_leF, yp_leT, yp_eqF, eq_self, yp_eqM, yp_lt1N, yp_sbN, yp_sb2N, ↓reduceIte, ↓yp_iP11, ↓yp_iP12, ↓yp_m0P]
    · rw [yp_up2_n _ _ (by omega), a2 a j (by unfold yp_T46; omega)]
      exact j1 a j q1 q2
    · rw [yp_fk_s]
      exact a3.fr (fun j q => yp_up2_n _ _ (by omega))
    · rw [yp_fk_s] at q
      obtain ⟨g1, g2⟩ := a4 q
      obtain ⟨q1, q2, q3⟩ := yp_fa0 q
      refine ⟨?_, fun l hl => ?_⟩
      · rw [yp_pk_s]; exact g1.fr (fun a j q => yp_up2_n _ _ (by omega))
      · by_cases e2 : l = 7 * nf + k
        · rw [e2, yp_up2_s, if_pos (by omega), g2, show 7 * nf + k - nf * 7 = k by omega]
        · rw [yp_up2_n _ _ (by omega), a2 _ _ (by unfold yp_T46; omega), (j3 q1).2 l hl]
          by_cases e3 : nf * 7 ≤ l ∧ l < nf * 7 + k
          · rw [if_pos e3, if_pos (by omega)]
          · rw [if_neg e3, if_neg (by omega)]
set_option maxHeartbeats 1000000 in
theorem yp_m_row (h : yp_RT B m t n p) (hf : m (B + 517) 5 = -yp_N 1) (z : yp_ClT) (hI : yp_clI z) (hC : yp_clM B m z.2.2) (j v : Nat) (hj : j < 3) (hv : v = yp_C1.getD j 0) (hx : ¬ ((j = 0 ∧ z.2.2.1.1 = 6) ∨ (j = 1 ∧ z.2.2.1.2.1 = 8))) : ∃ m1 m', fX12_readRow (yp_SH B) (B + 517) (yp_N v) m = some m1 ∧ fX12_sign (yp_SH B) (B + 517) (yp_N 59) m1 = some m' ∧ yp_Fr (yp_TCm B) m m' ∧ yp_RS B m' (yp_clF t n z j p) ∧ ((yp_clF t n z j p).1 = 0 → yp_RT B m' t n (yp_sk t n (yp_clB t n z j p).2.1 + 1) ∧ yp_clM B m' (yp_clB t n z j p).2.2) := by
  have hM := yp_mS B
  have hS := yp_mspS B
  have hO := yp_ofS
  have hpn := h.2.2.1
  have hn := h.2.1
  obtain ⟨i1, i2, i3, i4, i5, i6, i7, i8⟩ := hI
  have : j = 0 ∨ j = 1 ∨ j = 2 := by omega
  rcases this with rfl | rfl | rfl
  · simp only [yp_clF0, yp_clB0]
    have hv : v = 206975479 := hv
    subst hv
    obtain ⟨m1, a1, a2, a3, a4⟩ := yp_m_rdF h hf z.2.2.1.1 (by omega) hC.1
    have yp_b1 : m1 (B + 517) 14 = yp_N z.2.2.1.1 := (a2 _ _ (by omega) (by omega)).trans hC.1
    obtain ⟨m2, hm2⟩ : ∃ m2, m2 = up2 m1 (B + 517) 14 (yp_N (z.2.2.1.1 + 1)) := ⟨_, rfl⟩
    have g2 : ∀ a j, ¬ (a = B + 517 ∧ j = 14) → m2 a j = m1 a j := fun a j q => by rw [hm2, yp_up2_n _ _ (by omega)]
    obtain ⟨m', e1, e2, e3, e4⟩ := yp_r_sg (m := m2) (t := t) (n := n) (p := yp_pk t n p 7) (a3.fr (fun j q => g2 _ j (by omega))) (fun q => (a4 q).1.fr (fun a j q => g2 a j (by omega))) (yp_pk_le hpn 7) hn 59 (by omega) (by omega)
    refine ⟨m2, m', by simp (disch := omega) only [fX12_readRow_j128, fX12_readRow_j44, fX12_readRow, hM, hO, a1, yp_b1, ← hm2, Nat.reduceAdd, Nat.reduceMul, Nat.reduceSub, Nat.zero_add, Nat.add_zero, yp_LT, yp_nA, yp_nM, yp_ltF, yp_ltT, yp_leF, yp_leT, yp_eqF, eq_self, yp_eqM, yp_lt1N, yp_sbN, yp_sb2N, ↓reduceIte, ↓yp_iP11, ↓yp_iP12, ↓yp_m0P], e1, fun a j q => ?_, e3, fun k => ⟨e4 k, ?_⟩⟩
    · unfold yp_TCm at q
      rw [e2 a j (by unfold yp_T46; omega), g2 a j (by omega), a2 a j (by omega) (by omega)]
    · have k1 := (yp_fa0 k).1
      have G : ∀ a j, ¬ (a = B + 517 ∧ (j = 4 ∨ j = 5 ∨ j = 6 ∨ j = 14)) → ¬ (a = B + 520) → m' a j = m a j := fun a j q1 q2 => by
        rw [e2 a j (by unfold yp_T46; omega), g2 a j (by omega), a2 a j (by omega) q2]
      refine ⟨?_, ?_, ?_, fun l hl => ?_, fun gg hg => ⟨?_, ?_⟩⟩
      · rw [e2 _ _ (by unfold yp_T46; omega), hm2, yp_up2_s]; try rfl
      · rw [G _ _ (by omega) (by omega)]; exact hC.2.1
      · rw [G _ _ (by omega) (by omega)]; exact hC.2.2.1
      · have hl : l < (z.2.2.1.1 + 1) * 7 := hl
        rw [e2 _ _ (by unfold yp_T46; omega), g2 _ _ (by omega), (a4 k1).2 l (by omega)]
        show _ = yp_N (if z.2.2.1.1 * 7 ≤ l ∧ l < z.2.2.1.1 * 7 + 7 then yp_nV t n (yp_pk t n p (l - z.2.2.1.1 * 7)) else z.2.2.2.1 l)
        by_cases e : z.2.2.1.1 * 7 ≤ l ∧ l < z.2.2.1.1 * 7 + 7
        · rw [if_pos e, if_pos e]
        · rw [if_neg e, if_neg e]; exact hC.2.2.2.1 l (by omega)
      · rw [G _ _ (by omega) (by omega)]; exact (hC.2.2.2.2 gg hg).1
      · rw [G _ _ (by omega) (by omega)]; exact (hC.2.2.2.2 gg hg).2
  · simp only [yp_clF1, yp_clB1]
    have hv : v = 7734899 := hv
    subst hv
    have b4 := hC.2.1
    have g8 : z.2.2.1.2.1 < 8 := by omega
    obtain ⟨v12, m13, a1, a2, a3, a4⟩ := yp_r_num (a := (0, 0)) (m := m) (t := t) (n := n) (p := p) ⟨⟨Nat.zero_le 3, Nat.zero_le 600⟩, .inl ⟨rfl, hf⟩⟩ (fun _ => h) hpn hn 1 10 (yp_N 9) (by rw [yp_tiN (by omega)]; omega) (by omega) (by omega)
    rw [yp_fa1 _ rfl] at a3 a4
    obtain ⟨m14, hm14⟩ : ∃ m14, m14 = up2 m13 (B + 521) (2 * z.2.2.1.2.1) v12 := ⟨_, rfl⟩
    have g14 : ∀ a j, ¬ (a = B + 521 ∧ j = 2 * z.2.2.1.2.1) → m14 a j = m13 a j := fun a j q => by rw [hm14, yp_up2_n _ _ (by omega)]
    have b14 : m14 (B + 517) 15 = yp_N z.2.2.1.2.1 := by rw [g14 _ _ (by omega), a2 _ _ (by unfold yp_T46; omega)]; exact b4
    obtain ⟨v17, m18, d1, d2, d3, d4⟩ := yp_r_num (m := m14) (t := t) (n := n) (p := yp_nE t n p) (a3.fr (fun j q => g14 _ j (by omega))) (fun q => (a4 q).1.fr (fun a j q => g14 a j (by omega))) (yp_nE_le (t := t) hpn) hn 0 2 (yp_N 1) (by rw [yp_tiN (by omega)]; omega) (by omega) (by omega)
    obtain ⟨m19, hm19⟩ : ∃ m19, m19 = up2 m18 (B + 521) (2 * z.2.2.1.2.1 + 1) v17 := ⟨_, rfl⟩
    have g19 : ∀ a j, ¬ (a = B + 521 ∧ j = 2 * z.2.2.1.2.1 + 1) → m19 a j = m18 a j := fun a j q => by rw [hm19, yp_up2_n _ _ (by omega)]
    have b19 : m19 (B + 517) 15 = yp_N z.2.2.1.2.1 := by rw [g19 _ _ (by omega), d2 _ _ (by unfold yp_T46; omega)]; exact b14
    obtain ⟨m21, hm21⟩ : ∃ m21, m21 = up2 m19 (B + 517) 15 (yp_N (z.2.2.1.2.1 + 1)) := ⟨_, rfl⟩
    have g21 : ∀ a j, ¬ (a = B + 517 ∧ j = 15) → m21 a j = m19 a j := fun a j q => by rw [hm21, yp_up2_n _ _ (by omega)]
    obtain ⟨m', e1, e2, e3, e4⟩ := yp_r_sg (m := m21) (t := t) (n := n) (p := yp_nE t n (yp_nE t n p)) (d3.fr (fun j q => (g21 _ j (by omega)).trans (g19 _ j (by omega)))) (fun q => (d4 q).1.fr (fun a j q => (g21 a j (by omega)).trans (g19 a j (by omega)))) (yp_nE_le (t := t) (yp_nE_le (t := t) hpn)) hn 59 (by omega) (by omega)
    have G : ∀ a j, ¬ (a = B + 517 ∧ (j = 4 ∨ j = 5 ∨ j = 6 ∨ j = 15)) → ¬ (a = B + 521 ∧ (j = 2 * z.2.2.1.2.1 ∨ j = 2 * z.2.2.1.2.1 + 1)) → m' a j = m a j := fun a j q1 q2 => by
      rw [e2 a j (by unfold yp_T46; omega), g21 a j (by omega), g19 a j (by omega), d2 a j (by unfold yp_T46; omega), g14 a j (by omega), a2 a j (by unfold yp_T46; omega)]
    refine ⟨m21, m', by simp (disch := omega) only [fX12_readRow_j128, fX12_readRow_j44, fX12_readRow, hM, hS, hO, b4, a1, ← hm14, b14, d1, ← hm19, b19, ← hm21, Nat.reduceAdd, Nat.reduceMul, Nat.reduceSub, Nat.zero_add, Nat.add_zero, yp_LT, yp_nA, yp_nM, yp_ltF, yp_ltT, yp_leF, yp_leT, yp_eqF, eq_self, yp_eqM, yp_lt1N, yp_sbN, yp_sb2N, ↓reduceIte, ↓yp_iP11, ↓yp_iP12, ↓yp_m0P], e1, fun a j q => ?_, e3, fun k => ⟨e4 k, ?_⟩⟩
    · unfold yp_TCm at q
      exact G a j (by omega) (by omega)
    · obtain ⟨k1, k2, _⟩ := yp_fa0 (yp_fa0 k).1
      refine ⟨?_, ?_, ?_, fun l hl => ?_, fun gg hg => ?_⟩
      · rw [G _ _ (by omega) (by omega)]; exact hC.1
      · rw [e2 _ _ (by unfold yp_T46; omega), hm21, yp_up2_s]; try rfl
      · rw [G _ _ (by omega) (by omega)]; exact hC.2.2.1
      · rw [G _ _ (by omega) (by omega)]; exact hC.2.2.2.1 l hl
      · have hg : gg < z.2.2.1.2.1 + 1 := hg
        show _ = yp_N ((if gg = z.2.2.1.2.1 then (yp_nV t n p, yp_nV t n (yp_nE t n p)) else z.2.2.2.2 gg) : Nat × Nat).1 ∧ _ = yp_N ((if gg = z.2.2.1.2.1 then (yp_nV t n p, yp_nV t n (yp_nE t n p)) else z.2.2.2.2 gg) : Nat × Nat).2
        by_cases e : gg = z.2.2.1.2.1
        · rw [if_pos e, e]
          refine ⟨?_, ?_⟩
          · rw [e2 _ _ (by unfold yp_T46; omega), g21 _ _ (by omega), g19 _ _ (by omega), d2 _ _ (by unfold yp_T46; omega), hm14, yp_up2_s]; exact (a4 k1).2
          · rw [e2 _ _ (by unfold yp_T46; omega), g21 _ _ (by omega), hm19, yp_up2_s]; exact (d4 (yp_fa0 k).1).2
        · rw [if_neg e, G _ _ (by omega) (by omega), G _ _ (by omega) (by omega)]
          exact hC.2.2.2.2 gg (by omega)
  · simp only [yp_clF2, yp_clB2]
    have hv : v = 755084 := hv
    subst hv
    obtain ⟨v7, m8, a1, a2, a3, a4⟩ := yp_r_num (a := (0, 0)) (m := m) (t := t) (n := n) (p := p) ⟨⟨Nat.zero_le 3, Nat.zero_le 600⟩, .inl ⟨rfl, hf⟩⟩ (fun _ => h) hpn hn 10 100 (yp_N 99) (by rw [yp_tiN (by omega)]; omega) (by omega) (by omega)
    rw [yp_fa1 _ rfl] at a3 a4
    obtain ⟨m9, hm9⟩ : ∃ m9, m9 = up2 m8 (B + 517) 16 v7 := ⟨_, rfl⟩
    have g9 : ∀ a j, ¬ (a = B + 517 ∧ j = 16) → m9 a j = m8 a j := fun a j q => by rw [hm9, yp_up2_n _ _ (by omega)]
    obtain ⟨m', e1, e2, e3, e4⟩ := yp_r_sg (m := m9) (t := t) (n := n) (p := yp_nE t n p) (a3.fr (fun j q => g9 _ j (by omega))) (fun q => (a4 q).1.fr (fun a j q => g9 a j (by omega))) (yp_nE_le (t := t) hpn) hn 59 (by omega) (by omega)
    have G : ∀ a j, ¬ (a = B + 517 ∧ (j = 4 ∨ j = 5 ∨ j = 6 ∨ j = 16)) → m' a j = m a j := fun a j q1 => by
      rw [e2 a j (by unfold yp_T46; omega), g9 a j (by omega), a2 a j (by unfold yp_T46; omega)]
    refine ⟨m9, m', by simp (disch := omega) only [fX12_readRow_j128, fX12_readRow_j44, fX12_readRow, hM, hS, hO, a1, ← hm9, Nat.reduceAdd, Nat.reduceMul, Nat.reduceSub, Nat.zero_add, Nat.add_zero, yp_LT, yp_nA, yp_nM, yp_ltF, yp_ltT, yp_leF, yp_leT, yp_eqF, eq_self, yp_eqM, yp_lt1N, yp_sbN, yp_sb2N, ↓reduceIte, ↓yp_iP11, ↓yp_iP12, ↓yp_m0P], e1, fun a j q => ?_, e3, fun k => ⟨e4 k, ?_⟩⟩
    · unfold yp_TCm at q
      exact G a j (by omega)
    · have k1 := (yp_fa0 k).1
      refine ⟨?_, ?_, ?_, fun l hl => ?_, fun gg hg => ⟨?_, ?_⟩⟩
      · rw [G _ _ (by omega)]; exact hC.1
      · rw [G _ _ (by omega)]; exact hC.2.1
      · rw [e2 _ _ (by unfold yp_T46; omega), hm9, yp_up2_s]; exact (a4 k1).2
      · rw [G _ _ (by omega)]; exact hC.2.2.2.1 l hl
      · rw [G _ _ (by omega)]; exact (hC.2.2.2.2 gg hg).1
      · rw [G _ _ (by omega)]; exact (hC.2.2.2.2 gg hg).2
def yp_clR (B : Nat) (mm : Mem) (x : Mem ⊕ Mem) (y : Nat × Nat × yp_ClT) : Prop := (y.1 = 0 ∧ ∃ m, x = .inr m ∧ yp_Fr (yp_TCm B) mm m ∧ m (B + 517) 5 = -yp_N 1 ∧ yp_clM B m y.2.2.2.2) ∨ (y.1 ≠ 0 ∧ ∃ m, (x = .inl m ∨ x = .inr m) ∧ yp_Fr (yp_TCm B) mm m ∧ m (B + 517) 5 = yp_N y.2.1 ∧ m (B + 517) 6 = yp_N y.1)
set_option maxHeartbeats 1000000 in
theorem yp_m_clread {mm : Mem} (z0 : yp_ClT) (h0 : z0.1 = 0) (h : yp_RT B mm t n 0) (hf : mm (B + 517) 5 = -yp_N 1) (hI : yp_clI z0) (hC : yp_clM B mm z0.2.2) : ∃ x y, loopN (fun st : Int32 × Mem => fX12_college_b44 (yp_SH B) (B + 517) st.1 st.2) FU (yp_N z0.2.1, mm) = some x ∧ loopN (fun z : yp_ClT => some (yp_clS t n z)) FU z0 = some y ∧ yp_clR B mm x y := by
  have hM := yp_mS B
  have hO := yp_ofS
  have hn := h.2.1
  refine yp_lpSim2 (step := fun st : Int32 × Mem => fX12_college_b44 (yp_SH B) (B + 517) st.1 st.2) (ps := fun z : yp_ClT => some (yp_clS t n z)) (fun s z => ∃ m, s = (yp_N z.2.1, m) ∧ yp_RT B m t n z.1 ∧ m (B + 517) 5 = -yp_N 1 ∧ yp_clI z ∧ yp_clM B m z.2.2 ∧ yp_Fr (yp_TCm B) mm m) (yp_clR B mm) (fun z => n + 1 - z.1) (fun s z hR => ?_) 7999 (yp_N z0.2.1, mm) z0 (by show n + 1 - z0.1 < 7999; omega) ⟨mm, rfl, by rw [h0]; exact h, hf, hI, hC, yp_Fr.rf⟩
  obtain ⟨m, rfl, r1, r2, r3, r4, r5⟩ := hR
  have e0 := yp_m_more r1
  have f0 := yp_m_fine1 r2
  have i1 := r3.1
  have i2 := r3.2.1
  have i3 := r3.2.2.1
  have hpn := r1.2.2.1
  have hl := yp_sk_le (t := t) hpn
  by_cases k0 : yp_sk t n z.1 < n
  · rw [if_pos k0] at e0
    have hq := r1.at hl
    have c3 := hq.1.2.1
    have fq : yp_rAt B m (yp_sk t n z.1) (B + 517) 5 = -yp_N 1 := (yp_rAt_n _ (by omega)).trans r2
    have fq' := yp_m_fine1 fq
    have e1 := yp_m_word hq
    rw [yp_sk_fix, yp_wC_sk, yp_rAt2] at e1
    have wl := yp_wC_lt t n z.1
    have hCq : yp_clM B (yp_rAt B m (yp_sk t n z.1)) z.2.2 := r4.fr (fun a j q => yp_rAt_n _ (by omega))
    have b3 := hCq.1
    have b4 := hCq.2.1
    have Fq : yp_Fr (yp_TCm B) mm (yp_rAt B m (yp_sk t n z.1)) := r5.tr (yp_T46_cm (yp_Fr_rAt _))
    have bs : yp_clS t n z = if (yp_clG t n z).1 = 0 then .inl (yp_clN t n z) else .inr ((yp_clG t n z).1, (yp_clG t n z).2, z) := if_pos k0
    have bad : ∀ k, k ≠ 0 → k < 4 → yp_clG t n z = (k, yp_sk t n z.1) → (∃ x, fX12_college_b44 (yp_SH B) (B + 517) (yp_N z.2.1) m = some (.inr (.inl x)) ∧ x = yp_rF B (yp_rAt B m (yp_sk t n z.1)) k (yp_sk t n z.1)) → (∃ s' z', (fun st : Int32 × Mem => fX12_college_b44 (yp_SH B) (B + 517) st.1 st.2) (yp_N z.2.1, m) = some (.inl s') ∧ (fun z : yp_ClT => some (yp_clS t n z)) z = some (.inl z') ∧ (∃ m, s' = (yp_N z'.2.1, m) ∧ yp_RT B m t n z'.1 ∧ m (B + 517) 5 = -yp_N 1 ∧ yp_clI z' ∧ yp_clM B m z'.2.2 ∧ yp_Fr (yp_TCm B) mm m) ∧ n + 1 - z'.1 < n + 1 - z.1) ∨ (∃ x y, (fun st : Int32 × Mem => fX12_college_b44 (yp_SH B) (B + 517) st.1 st.2) (yp_N z.2.1, m) = some (.inr x) ∧ (fun z : yp_ClT => some (yp_clS t n z)) z = some (.inr y) ∧ yp_clR B mm x y) ∨ (∃ s' x y, (fun st : Int32 × Mem => fX12_college_b44 (yp_SH B) (B + 517) st.1 st.2) (yp_N z.2.1, m) = some (.inl s') ∧ (fun st : Int32 × Mem => fX12_college_b44 (yp_SH B) (B + 517) st.1 st.2) s' = some (.inr x) ∧ (fun z : yp_ClT => some (yp_clS t n z)) z = some (.inr y) ∧ yp_clR B mm x y) := fun k hk hk4 hg hx => by
      obtain ⟨x, hx, rfl⟩ := hx
      rw [hg, if_neg hk] at bs
      exact .inr (.inl ⟨_, _, hx, congrArg some bs, .inr ⟨hk, _, .inl rfl, Fq.tr (yp_T46_cm (yp_Fr_rF _ _)), yp_rF_5 _ _ _ _⟩⟩)
    by_cases hj : yp_widx yp_C1 (yp_wC t n z.1) = 3
    · have hv := yp_w1_no hj
      refine bad 1 (by decide) (by decide) (by unfold yp_clG; rw [if_pos hj]) ⟨_, ?_, rfl⟩
      have g1 := yp_m_wrong1 fq 1 (yp_sk t n z.1)
      have g2 := yp_m_fine0 (yp_rF_x (B := B) (m := yp_rAt B m (yp_sk t n z.1)) (k := 1) (x := yp_sk t n z.1) (by omega))
      simp (disch := omega) only [fX12_college_b44, fX12_college_j105, fX12_isRow_j32, fX12_isRow_j27, fX12_isRow, hM, hO, f0, e0, e1, hv, yp_ck0, c3, g1, g2, Nat.reduceAdd, Nat.reduceMul, Nat.reduceSub, Nat.zero_add, Nat.add_zero, yp_LT, yp_nA, yp_nM, yp_ltF, yp_ltT, yp_leF, yp_leT, yp_eqF, eq_self, yp_eqM, yp_lt1N, yp_sbN, yp_sb2N, ↓reduceIte, ↓yp_iP11, ↓yp_iP12, ↓yp_m0P]
    · have hj3 : yp_widx yp_C1 (yp_wC t n z.1) < 3 := by have : yp_widx yp_C1 (yp_wC t n z.1) ≤ 3 := yp_widx_le yp_C1; omega
      have hv := yp_widx_get yp_C1 (yp_widx yp_C1 (yp_wC t n z.1)) rfl hj3
      by_cases hx : z.2.1 = 60 ∨ (yp_widx yp_C1 (yp_wC t n z.1) = 0 ∧ z.2.2.1.1 = 6) ∨ (yp_widx yp_C1 (yp_wC t n z.1) = 1 ∧ z.2.2.1.2.1 = 8)
      · refine bad 3 (by decide) (by decide) (by unfold yp_clG; rw [if_neg hj, if_pos hx]) ⟨_, ?_, rfl⟩
        have g1 := yp_m_wrong1 fq 3 (yp_sk t n z.1)
        have g2 := yp_m_fine0 (yp_rF_x (B := B) (m := yp_rAt B m (yp_sk t n z.1)) (k := 3) (x := yp_sk t n z.1) (by omega))
        generalize yp_widx yp_C1 (yp_wC t n z.1) = j at hj3 hv hx
        generalize yp_wC t n z.1 = v at e1 hv wl
        by_cases x1 : z.2.1 = 60
        · have : j = 0 ∨ j = 1 ∨ j = 2 := by omega
          rcases this with rfl | rfl | rfl
          · have hv : v = 206975479 := hv
            subst hv
            simp (disch := omega) only [fX12_college_b44, fX12_college_j105, fX12_college_j96, fX12_isRow_j32, fX12_isRow_j27, fX12_isRow, hM, hO, f0, e0, e1, x1, yp_ck1, c3, g1, g2, Nat.reduceAdd, Nat.reduceMul, Nat.reduceSub, Nat.zero_add, Nat.add_zero, yp_LT, yp_nA, yp_nM, yp_ltF, yp_ltT, yp_leF, yp_leT, yp_eqF, eq_self, yp_eqM, yp_lt1N, yp_sbN, yp_sb2N, ↓reduceIte, ↓yp_iP11, ↓yp_iP12, ↓yp_m0P]
          · have hv : v = 7734899 := hv
            subst hv
            simp (disch := omega) only [fX12_college_b44, fX12_college_j105, fX12_college_j96, fX12_isRow_j32, fX12_isRow_j27, fX12_isRow, hM, hO, f0, e0, e1, x1, yp_ck1, c3, g1, g2, Nat.reduceAdd, Nat.reduceMul, Nat.reduceSub, Nat.zero_add, Nat.add_zero, yp_LT, yp_nA, yp_nM, yp_ltF, yp_ltT, yp_leF, yp_leT, yp_eqF, eq_self, yp_eqM, yp_lt1N, yp_sbN, yp_sb2N, ↓reduceIte, ↓yp_iP11, ↓yp_iP12, ↓yp_m0P]
          · have hv : v = 755084 := hv
            subst hv
            simp (disch := omega) only [fX12_college_b44, fX12_college_j105, fX12_college_j96, fX12_isRow_j32, fX12_isRow_j27, fX12_isRow, hM, hO, f0, e0, e1, x1, yp_ck1, c3, g1, g2, Nat.reduceAdd, Nat.reduceMul, Nat.reduceSub, Nat.zero_add, Nat.add_zero, yp_LT, yp_nA, yp_nM, yp_ltF, yp_ltT, yp_leF, yp_leT, yp_eqF, eq_self, yp_eqM, yp_lt1N, yp_sbN, yp_sb2N, ↓reduceIte, ↓yp_iP11, ↓yp_iP12, ↓yp_m0P]
        · rcases hx with x2 | ⟨rfl, x2⟩ | ⟨rfl, x2⟩
          · exact absurd x2 x1
          · rw [x2] at b3
            have hv : v = 206975479 := hv
            subst hv
            simp (disch := omega) only [fX12_college_b44, fX12_college_j105, fX12_college_j96, fX12_isRow_j32, fX12_isRow_j27, fX12_isRow, fX12_isFull_j49, fX12_isFull_j48, fX12_isFull, hM, hO, f0, e0, e1, b3, yp_ck1, c3, g1, g2, Nat.reduceAdd, Nat.reduceMul, Nat.reduceSub, Nat.zero_add, Nat.add_zero, yp_LT, yp_nA, yp_nM, yp_ltF, yp_ltT, yp_leF, yp_leT, yp_eqF, eq_self, yp_eqM, yp_lt1N, yp_sbN, yp_sb2N, ↓reduceIte, ↓yp_iP11, ↓yp_iP12, ↓yp_m0P]
          · rw [x2] at b4
            have hv : v = 7734899 := hv
            subst hv
            simp (disch := omega) only [fX12_college_b44, fX12_college_j105, fX12_college_j96, fX12_isRow_j32, fX12_isRow_j27, fX12_isRow, fX12_isFull_j49, fX12_isFull_j48, fX12_isFull, hM, hO, f0, e0, e1, b4, yp_ck1, c3, g1, g2, Nat.reduceAdd, Nat.reduceMul, Nat.reduceSub, Nat.zero_add, Nat.add_zero, yp_LT, yp_nA, yp_nM, yp_ltF, yp_ltT, yp_leF, yp_leT, yp_eqF, eq_self, yp_eqM, yp_lt1N, yp_sbN, yp_sb2N, ↓reduceIte, ↓yp_iP11, ↓yp_iP12, ↓yp_m0P]
      · have x1 : z.2.1 < 60 := by omega
        have e2 := yp_m_pass hq
        rw [yp_rAt2] at e2
        have e2 : fX12_pass (yp_SH B) (B + 517) (yp_rAt B m (yp_sk t n z.1)) = some (yp_rAt B m (yp_wE t n z.1)) := e2
        have hr := r1.at (yp_wE_le (t := t) hpn)
        obtain ⟨m1, m', g1, g2, g3, g4, g5⟩ := yp_m_row hr ((yp_rAt_n _ (by omega)).trans r2) z r3 (r4.fr (fun a j q => yp_rAt_n _ (by omega))) _ _ hj3 hv (fun q => hx (.inr q))
        have cg : yp_clG t n z = yp_clF t n z (yp_widx yp_C1 (yp_wC t n z.1)) (yp_wE t n z.1) := by unfold yp_clG; rw [if_neg hj, if_neg hx]
        rw [← cg] at g4 g5
        have stp : fX12_college_b44 (yp_SH B) (B + 517) (yp_N z.2.1) m = some (.inl (yp_N (z.2.1 + 1), m')) := by
          generalize yp_widx yp_C1 (yp_wC t n z.1) = j at hj3 hv hx
          generalize yp_wC t n z.1 = v at e1 hv wl g1
          have : j = 0 ∨ j = 1 ∨ j = 2 := by omega
          rcases this with rfl | rfl | rfl
          · have hv : v = 206975479 := hv
            subst hv
            have x2 : z.2.2.1.1 < 6 := by omega
            simp (disch := omega) only [fX12_college_b44, fX12_college_j105, fX12_isRow_j32, fX12_isRow_j27, fX12_isRow, fX12_isFull_j49, fX12_isFull_j48, fX12_isFull, hM, hO, f0, e0, e1, b3, yp_ck0, yp_ck1, fq', e2, g1, g2, Nat.reduceAdd, Nat.reduceMul, Nat.reduceSub, Nat.zero_add, Nat.add_zero, yp_LT, yp_nA, yp_nM, yp_ltF, yp_ltT, yp_leF, yp_leT, yp_eqF, eq_self, yp_eqM, yp_lt1N, yp_sbN, yp_sb2N, ↓reduceIte, ↓yp_iP11, ↓yp_iP12, ↓yp_m0P]
          · have hv : v = 7734899 := hv
            subst hv
            have x2 : z.2.2.1.2.1 < 8 := by omega
            simp (disch := omega) only [fX12_college_b44, fX12_college_j105, fX12_isRow_j32, fX12_isRow_j27, fX12_isRow, fX12_isFull_j49, fX12_isFull_j48, fX12_isFull, hM, hO, f0, e0, e1, b4, yp_ck0, yp_ck1, fq', e2, g1, g2, Nat.reduceAdd, Nat.reduceMul, Nat.reduceSub, Nat.zero_add, Nat.add_zero, yp_LT, yp_nA, yp_nM, yp_ltF, yp_ltT, yp_leF, yp_leT, yp_eqF, eq_self, yp_eqM, yp_lt1N, yp_sbN, yp_sb2N, ↓reduceIte, ↓yp_iP11, ↓yp_iP12, ↓yp_m0P]
          · have hv : v = 755084 := hv
            subst hv
            simp (disch := omega) only [fX12_college_b44, fX12_college_j105, fX12_isRow_j32, fX12_isRow_j27, fX12_isRow, fX12_isFull_j49, fX12_isFull_j48, fX12_isFull, hM, hO, f0, e0, e1, yp_ck0, yp_ck1, fq', e2, g1, g2, Nat.reduceAdd, Nat.reduceMul, Nat.reduceSub, Nat.zero_add, Nat.add_zero, yp_LT, yp_nA, yp_nM, yp_ltF, yp_ltT, yp_leF, yp_leT, yp_eqF, eq_self, yp_eqM, yp_lt1N, yp_sbN, yp_sb2N, ↓reduceIte, ↓yp_iP11, ↓yp_iP12, ↓yp_m0P]
        have F' : yp_Fr (yp_TCm B) mm m' := (r5.tr (yp_T46_cm (yp_Fr_rAt _))).tr g3
        by_cases k1 : (yp_clG t n z).1 = 0
        · rw [if_pos k1] at bs
          have q4 := yp_clN_p hpn hn k1
          exact .inl ⟨_, yp_clN t n z, stp, congrArg some bs, ⟨m', rfl, (g5 k1).1, g4.fine k1, yp_clN_I r3 k1, (g5 k1).2, F'⟩, by show n + 1 - (yp_clN t n z).1 < n + 1 - z.1; omega⟩
        · rw [if_neg k1] at bs
          have f2 := yp_m_fine0 (g4.bad k1)
          rcases g4.2 with q | q
          · exact absurd q.1 k1
          · refine .inr (.inr ⟨_, .inr m', _, stp, ?_, congrArg some bs, .inr ⟨k1, m', .inr rfl, F', q.2⟩⟩)
            simp (disch := omega) only [fX12_college_b44, hM, f2, Nat.reduceAdd, Nat.reduceMul, Nat.reduceSub, Nat.zero_add, Nat.add_zero, yp_LT, yp_nA, yp_nM, yp_ltF, yp_ltT, yp_leF, yp_leT, yp_eqF, eq_self, yp_eqM, yp_lt1N, yp_sbN, yp_sb2N, ↓reduceIte, ↓yp_iP11, ↓yp_iP12, ↓yp_m0P]
  · rw [if_neg k0] at e0
    have bs : yp_clS t n z = .inr (0, 0, z) := if_neg k0
    refine .inr (.inl ⟨.inr (yp_rAt B m (yp_sk t n z.1)), _, ?_, congrArg some bs, .inl ⟨rfl, _, rfl, r5.tr (yp_T46_cm (yp_Fr_rAt _)), (yp_rAt_n _ (by omega)).trans r2, r4.fr (fun a j q => yp_rAt_n _ (by omega))⟩⟩)
    simp (disch := omega) only [fX12_college_b44, hM, f0, e0, Nat.reduceAdd, Nat.reduceMul, Nat.reduceSub, Nat.zero_add, Nat.add_zero, yp_LT, yp_nA, yp_nM, yp_ltF, yp_ltT, yp_leF, yp_leT, yp_eqF, eq_self, yp_eqM, yp_lt1N, yp_sbN, yp_sb2N, ↓reduceIte, ↓yp_iP11, ↓yp_iP12, ↓yp_m0P]
end CLG2

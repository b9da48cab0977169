section SIMPLE2
variable {B : Nat} {t : Nat → Nat} {n nf ng : Nat}
def yp_cst (B : Nat) (Sc : Nat → Int32 → Mem → Option (Int32 × Mem)) (o : Nat) (m : Mem) : Option (Int32 × Mem) := bd2 (fX10_readStep_o (yp_SH B) Sc (B + 27) (yp_N o) m) (fun v m3 => if v = yp_N 0 then some (yp_N 0, m3) else fX8_wants (yp_SH B) (B + 1) (yp_N 59) m3)
set_option maxHeartbeats 1000000 in
theorem yp_cst0 {Sc : Nat → Int32 → Mem → Option (Int32 × Mem)} {o : Nat} {m m3 : Mem} (h : fX10_readStep_o (yp_SH B) Sc (B + 27) (yp_N o) m = some (yp_N 0, m3)) : yp_cst B Sc o m = some (yp_N 0, m3) := by
  unfold yp_cst; rw [h]; rfl
set_option maxHeartbeats 1000000 in
theorem yp_cst1 {Sc : Nat → Int32 → Mem → Option (Int32 × Mem)} {o : Nat} {m m3 : Mem} (h : fX10_readStep_o (yp_SH B) Sc (B + 27) (yp_N o) m = some (yp_N 1, m3)) : yp_cst B Sc o m = fX8_wants (yp_SH B) (B + 1) (yp_N 59) m3 := by
  unfold yp_cst; rw [h]; rfl
set_option maxHeartbeats 1000000 in
theorem yp_c_pre3 {m : Mem} {z : yp_WkT} (hm : yp_WC B m t n nf ng z) : fX8_next (yp_SH B) (B + 1) m = some (yp_N (yp_sk t n z.1), yp_cAt B m (yp_sk t n z.1)) ∧ ((yp_widx yp_C3 (yp_wC t n z.1) < 7 ∧ fX8_word (yp_SH B) (B + 1) 3 (yp_cAt B m (yp_sk t n z.1)) = some (yp_N (yp_widx yp_C3 (yp_wC t n z.1)), yp_cAt B m (yp_wE t n z.1))) ∨ (yp_widx yp_C3 (yp_wC t n z.1) = 7 ∧ fX8_word (yp_SH B) (B + 1) 3 (yp_cAt B m (yp_sk t n z.1)) = some (-yp_N 1, yp_cF B (yp_cAt B m (yp_wE t n z.1)) 1 (yp_sk t n z.1)))) := by
  have hs2 := yp_sk_le (t := t) hm.1.2.2.1
  have q := hm.1.at hs2
  refine ⟨yp_c_next hm.1, ?_⟩
  rcases yp_c_word yp_ws3 q with ⟨w1, w2⟩ | ⟨w1, w2⟩
  · rw [yp_wC_sk] at w1 w2
    rw [yp_wE_sk, yp_cAt2] at w2
    exact .inl ⟨w1, w2⟩
  · rw [yp_wC_sk] at w1
    rw [yp_wE_sk, yp_cAt2, yp_sk_fix] at w2
    exact .inr ⟨w1, w2⟩
set_option maxHeartbeats 1000000 in
theorem yp_c_simple {Sc : Nat → Int32 → Mem → Option (Int32 × Mem)} {o : Nat} {z : yp_WkT} (hn : n ≤ 150) (hnf : nf ≤ 6) (hng : ng ≤ 8) (h1 : z.1 ≤ n) (h4 : 4 * z.2.1 ≤ z.1) (w : Nat) (hw : yp_widx yp_C3 (yp_wC t n z.1) = w) (w6 : w < 6) : yp_KWc B t n nf ng z (yp_fa (yp_spN t n nf ng w (yp_wE t n z.1)).1 (yp_sgk t n (yp_spN t n nf ng w (yp_wE t n z.1)).2.1 59, yp_sk t n (yp_spN t n nf ng w (yp_wE t n z.1)).2.1), yp_psh (yp_spR t n nf ng w (yp_wE t n z.1) o) z (yp_sk t n (yp_spN t n nf ng w (yp_wE t n z.1)).2.1 + 1)) (yp_cst B Sc o) := by
  intro m hm
  have hS := yp_wspS B
  have hA := yp_wspA B
  have hs := yp_sk_ge t n z.1
  have hw3 := yp_w3_len (t := t) h1 (by rw [hw]; omega)
  have hw2 := yp_wE_le (t := t) h1
  obtain ⟨e0, e1⟩ := yp_c_pre3 hm
  rw [hw] at e1
  rcases e1 with ⟨_, e1⟩ | ⟨e1, _⟩
  rotate_left
  · omega
  obtain ⟨p1, p2, p3⟩ := yp_spN_le (t := t) (nf := nf) (ng := ng) (w := w) hw2 hn
  have g := hm.at (q := yp_wE t n z.1) (by omega) hw2
  have c8 : yp_cAt B m (yp_wE t n z.1) (B + 27) 8 = yp_N z.2.1 := g.2.2.1
  obtain ⟨m16, hm16⟩ : ∃ m16, m16 = up2 (yp_cAt B m (yp_wE t n z.1)) (B + 27) 8 (yp_N (z.2.1 + 1)) := ⟨_, rfl⟩
  obtain ⟨m18, hm18⟩ : ∃ m18, m18 = up2 m16 (B + 28) z.2.1 (yp_N w) := ⟨_, rfl⟩
  have G18 : ∀ a j, ¬ (a = B + 27 ∧ j = 8) → ¬ (a = B + 28 ∧ j = z.2.1) → m18 a j = yp_cAt B m (yp_wE t n z.1) a j := fun a j q1 q2 => by rw [hm18, yp_up2_n _ _ (by omega), hm16, yp_up2_n _ _ (by omega)]
  have t18 : yp_CT B m18 t n (yp_wE t n z.1) := g.1.fr (fun a j q => G18 a j (by omega) (by omega))
  have f18 : yp_FL B m18 = (yp_N 0, -yp_N 1) := by rw [← g.2.1]; exact yp_FL_fr (fun j q => G18 _ j (by omega) (by omega))
  have k8 : m18 (B + 27) 8 = yp_N (z.2.1 + 1) := by rw [hm18, yp_up2_n _ _ (by omega), hm16, yp_up2_s]
  have k28 : m18 (B + 28) z.2.1 = yp_N w := by rw [hm18, yp_up2_s]
  have F18 : yp_Fr (yp_TWc B z.2.1) m m18 := fun a j q => by
    unfold yp_TWc at q
    rw [G18 a j (by omega) (by omega), yp_cAt_n _ (by omega)]
  have key : ∃ m21, fX10_readStep_o (yp_SH B) Sc (B + 27) (yp_N o) m = some (if (yp_spN t n nf ng w (yp_wE t n z.1)).1.1 = 0 then yp_N 1 else yp_N 0, m21) ∧ yp_CT B m21 t n (yp_spN t n nf ng w (yp_wE t n z.1)).2.1 ∧ yp_FL B m21 = yp_FLk (yp_spN t n nf ng w (yp_wE t n z.1)).1 ∧ (∀ b j, ¬ (b = B + 1 ∧ (j = 3 ∨ j = 4 ∨ j = 5)) → ¬ (B + 29 ≤ b ∧ b ≤ B + 31 ∧ j = z.2.1) → m21 b j = m18 b j) ∧ ((yp_spN t n nf ng w (yp_wE t n z.1)).1.1 = 0 → w ≠ 5 → m21 (B + 29) z.2.1 = yp_N (yp_spN t n nf ng w (yp_wE t n z.1)).2.2.1 ∧ m21 (B + 30) z.2.1 = yp_N (yp_spN t n nf ng w (yp_wE t n z.1)).2.2.2.1 ∧ (2 ≤ w → m21 (B + 31) z.2.1 = yp_N (yp_spN t n nf ng w (yp_wE t n z.1)).2.2.2.2)) := by
    by_cases w5 : w = 5
    · subst w5
      have x1 := (yp_c_whole B m18).1 (congrArg Prod.fst f18)
      have sp : yp_spN t n nf ng 5 (yp_wE t n z.1) = ((0, 0), yp_wE t n z.1, 0, 0, 0) := if_pos rfl
      rw [sp]
      dsimp only
      refine ⟨m18, ?_, t18, f18, fun _ _ _ _ => rfl, fun _ q => absurd rfl q⟩
      rw [if_pos rfl]
      simp (disch := omega) only [↓yp_lt1N, fX10_readStep_o, ↓yp_opP hS.1.1, ↓yp_iP8, ↓yp_bdP e0, ↓yp_bdP e1, hS, hA, fX10_readStep_j59, fX10_readStep_j183, c8, ← hm16, ← hm18, x1, yp_ck1, Nat.reduceAdd, Nat.reduceMul, Nat.reduceSub, Nat.zero_add, Nat.add_zero, yp_LT, yp_nA, yp_nM, yp_ltF, yp_ltT, yp_leF, yp_leT, yp_eqF, eq_self, yp_eqM, yp_lt1N, yp_sbN, yp_sb2N, ↓reduceIte, ↓yp_iP11, ↓yp_iP12, ↓yp_m0P]
    · obtain ⟨m21, a1, a2, a3, a4, a5⟩ := yp_c_numbers (nf := nf) (ng := ng) (l := z.2.1) (w := w) (by omega) hnf hng (by omega) t18 hn f18 ((G18 _ _ (by omega) (by omega)).trans g.2.2.2.2.1) ((G18 _ _ (by omega) (by omega)).trans g.2.2.2.2.2)
      refine ⟨m21, ?_, a2, a3, a4, fun k _ => a5 k⟩
      by_cases k : (yp_spN t n nf ng w (yp_wE t n z.1)).1.1 = 0
      · rw [if_pos k]
        rw [yp_FLk_0 k] at a3
        have x1 := (yp_c_whole B m21).1 (congrArg Prod.fst a3)
        simp (disch := omega) only [↓yp_lt1N, fX10_readStep_o, ↓yp_opP hS.1.1, ↓yp_iP8, ↓yp_bdP e0, ↓yp_bdP e1, hS, hA, fX10_readStep_j59, fX10_readStep_j183, c8, ← hm16, ← hm18, a1, x1, yp_ck1, Nat.reduceAdd, Nat.reduceMul, Nat.reduceSub, Nat.zero_add, Nat.add_zero, yp_LT, yp_nA, yp_nM, yp_ltF, yp_ltT, yp_leF, yp_leT, yp_eqF, eq_self, yp_eqM, yp_lt1N, yp_sbN, yp_sb2N, ↓reduceIte, ↓yp_iP11, ↓yp_iP12, ↓yp_m0P]
      · rw [if_neg k]
        rw [yp_FLk_1 k] at a3
        have x1 := (yp_c_whole B m21).2 (by
          have q : m21 (B + 1) 4 = yp_N (yp_spN t n nf ng w (yp_wE t n z.1)).1.1 := congrArg Prod.fst a3
          rw [q, yp_eqN (by have := p3.1; omega) (by omega)]; exact k)
        simp (disch := omega) only [↓yp_lt1N, fX10_readStep_o, ↓yp_opP hS.1.1, ↓yp_iP8, ↓yp_bdP e0, ↓yp_bdP e1, hS, hA, fX10_readStep_j59, fX10_readStep_j183, c8, ← hm16, ← hm18, a1, x1, yp_ck0, Nat.reduceAdd, Nat.reduceMul, Nat.reduceSub, Nat.zero_add, Nat.add_zero, yp_LT, yp_nA, yp_nM, yp_ltF, yp_ltT, yp_leF, yp_leT, yp_eqF, eq_self, yp_eqM, yp_lt1N, yp_sbN, yp_sb2N, ↓reduceIte, ↓yp_iP11, ↓yp_iP12, ↓yp_m0P]
  obtain ⟨m21, a1, a2, a3, a4, a5⟩ := key
  have F21 : yp_Fr (yp_TWc B z.2.1) m m21 := F18.tr (fun a j q => a4 a j (by unfold yp_TWc at q; omega) (by unfold yp_TWc at q; omega))
  generalize hsp : yp_spN t n nf ng w (yp_wE t n z.1) = sp at a1 a2 a3 a5 p1 p2 p3
  by_cases k : sp.1.1 = 0
  · rw [if_pos k] at a1
    obtain ⟨v, m22, q, d1, d2, d3, d4, d5, d6⟩ := yp_k_wan a2 a3 p3 59 (by omega)
    have F22 : yp_Fr (yp_TWc B z.2.1) m m22 := F21.tr (yp_TWc_t d2)
    have G22 : ∀ b j, ¬ (b = B + 1 ∧ (j = 3 ∨ j = 4 ∨ j = 5)) → m22 b j = m21 b j := fun b j q => d2 b j (by unfold yp_T35; omega)
    have hq2 := yp_sk_ge t n sp.2.1
    refine ⟨m22, ?_, F22, d6, fun kk => ?_⟩
    · rw [yp_cst1 a1, d1, yp_fa1 _ k]
      by_cases k2 : yp_sgk t n sp.2.1 59 = 0
      · rw [(d4 k2).1, if_pos (show (yp_sgk t n sp.2.1 59, yp_sk t n sp.2.1).1 = 0 from k2)]
      · rw [d5 k2, if_neg (show ¬ (yp_sgk t n sp.2.1 59, yp_sk t n sp.2.1).1 = 0 from k2)]
    · have k2 : yp_sgk t n sp.2.1 59 = 0 := (yp_fa0 kk).2.1
      have d3 : yp_CT B m22 t n (yp_sk t n sp.2.1 + 1) := by rw [← (d4 k2).2]; exact d3
      refine ⟨⟨d3, by rw [d6, yp_FLk_0 kk], ?_, ?_, ?_, ?_⟩, fun kr k1 kl => ?_⟩
      · rw [G22 _ _ (by omega), a4 _ _ (by omega) (by omega)]; exact k8
      · show 4 * (z.2.1 + 1) ≤ yp_sk t n sp.2.1 + 1
        omega
      · rw [F22 _ _ (by unfold yp_TWc; omega)]; exact hm.2.2.2.2.1
      · rw [F22 _ _ (by unfold yp_TWc; omega)]; exact hm.2.2.2.2.2
      · have kl : kr < z.2.1 + 1 := kl
        have : kr = z.2.1 := by omega
        subst this
        have e : (yp_psh (yp_spR t n nf ng w (yp_wE t n z.1) o) z (yp_sk t n sp.2.1 + 1)).2.2 z.2.1 = yp_spR t n nf ng w (yp_wE t n z.1) o := if_pos rfl
        rw [e]
        unfold yp_spR
        rw [hsp]
        refine ⟨?_, fun q5 => ?_, fun q5 => ?_, fun q5 q6 => ?_, fun q5 => ?_⟩
        · rw [G22 _ _ (by omega), a4 _ _ (by omega) (by omega)]; exact k28
        · rw [G22 _ _ (by omega)]; exact (a5 k q5).1
        · have q5 : w < 5 := q5
          rw [G22 _ _ (by omega)]; exact (a5 k (by omega)).2.1
        · have q5 : 2 ≤ w := q5
          have q6 : w ≤ 4 := q6
          rw [G22 _ _ (by omega)]; exact (a5 k (by omega)).2.2 q5
        · have q5 : w = 6 := q5
          omega
  · rw [if_neg k] at a1
    refine ⟨m21, ?_, F21, by rw [yp_fa2 _ k]; exact a3, fun kk => absurd (yp_fa0 kk).1 k⟩
    rw [yp_cst0 a1, yp_fa2 _ k, if_neg k]
def yp_tel (B : Nat) (m : Mem) (l : Nat) (w a b c : Int32) : Mem := up2 (up2 (up2 (up2 (up2 m (B + 530) l w) (B + 530) (l + 1) a) (B + 530) (l + 2) b) (B + 530) (l + 3) c) (B + 517) 30 (yp_N (l + 4))
set_option maxHeartbeats 1000000 in
theorem yp_tel_n {m : Mem} {l a j : Nat} {w x y v : Int32} (h1 : ¬ (a = B + 517 ∧ j = 30)) (h2 : ¬ (a = B + 530 ∧ l ≤ j ∧ j < l + 4)) : yp_tel B m l w x y v a j = m a j := by
  unfold yp_tel
  rw [yp_up2_n _ _ (by omega), yp_up2_n _ _ (by omega), yp_up2_n _ _ (by omega), yp_up2_n _ _ (by omega), yp_up2_n _ _ (by omega)]
set_option maxHeartbeats 1000000 in
theorem yp_tel_v (B : Nat) (m : Mem) (l : Nat) (w x y v : Int32) : yp_tel B m l w x y v (B + 530) l = w ∧ yp_tel B m l w x y v (B + 530) (l + 1) = x ∧ yp_tel B m l w x y v (B + 530) (l + 2) = y ∧ yp_tel B m l w x y v (B + 530) (l + 3) = v ∧ yp_tel B m l w x y v (B + 517) 30 = yp_N (l + 4) := by
  unfold yp_tel
  refine ⟨?_, ?_, ?_, ?_, yp_up2_s _ _ _ _⟩
  · rw [yp_up2_n _ _ (by omega), yp_up2_n _ _ (by omega), yp_up2_n _ _ (by omega), yp_up2_n _ _ (by omega), yp_up2_s]
  · rw [yp_up2_n _ _ (by omega), yp_up2_n _ _ (by omega), yp_up2_n _ _ (by omega), yp_up2_s]
  · rw [yp_up2_n _ _ (by omega), yp_up2_n _ _ (by omega), yp_up2_s]
  · rw [yp_up2_n _ _ (by omega), yp_up2_s]
set_option maxHeartbeats 1000000 in
theorem yp_wmS (B : Nat) : rR (yp_SH B) 12 (B + 517) 28 = some (B + 530) ∧ rR (yp_SH B) 12 (B + 517) 29 = some (B + 531) ∧ (∀ mm k v, k < 200 → aS (yp_SH B) mm (B + 530) (yp_N k) v = some (up2 mm (B + 530) k v)) ∧ (∀ mm k, k < 200 → aL (yp_SH B) mm (B + 531) (yp_N k) = some (mm (B + 531) k)) := by
  refine ⟨?_, ?_, fun mm k v h => yp_aSN (yp_sa530 B) mm k v h (by omega), fun mm k h => yp_aLN (yp_sa531 B) mm k h (by omega)⟩
  · rw [rR, yp_so517]; rfl
  · rw [rR, yp_so517]; rfl
set_option maxHeartbeats 1000000 in
theorem yp_m_tell1 {m : Mem} {l : Nat} (hf : m (B + 517) 5 = -yp_N 1) (h : m (B + 517) 30 = yp_N l) (hl : l + 4 ≤ 200) (w a b c : Int32) : fX12_tellsStep (yp_SH B) (B + 517) w a b c m = some (yp_tel B m l w a b c) := by
  have hM := yp_mS B
  have hS := yp_wmS B
  have f := yp_m_fine1 hf
  have e1 : up2 m (B + 530) l w (B + 517) 30 = yp_N l := by rw [yp_up2_n _ _ (by omega)]; exact h
  have e2 : up2 (up2 m (B + 530) l w) (B + 530) (l + 1) a (B + 517) 30 = yp_N l := by rw [yp_up2_n _ _ (by omega)]; exact e1
  have e3 : up2 (up2 (up2 m (B + 530) l w) (B + 530) (l + 1) a) (B + 530) (l + 2) b (B + 517) 30 = yp_N l := by rw [yp_up2_n _ _ (by omega)]; exact e2
  have e4 : up2 (up2 (up2 (up2 m (B + 530) l w) (B + 530) (l + 1) a) (B + 530) (l + 2) b) (B + 530) (l + 3) c (B + 517) 30 = yp_N l := by rw [yp_up2_n _ _ (by omega)]; exact e3
  simp (disch := omega) only [fX12_tellsStep, hM, hS, f, h, e1, e2, e3, e4, Nat.reduceAdd, Nat.reduceMul, Nat.reduceSub, Nat.zero_add, Nat.add_zero, yp_LT, yp_nA, yp_nM, yp_ltF, yp_ltT, yp_leF, yp_leT, yp_eqF, eq_self, yp_eqM, yp_lt1N, yp_sbN, yp_sb2N, ↓reduceIte, ↓yp_iP11, ↓yp_iP12, ↓yp_m0P]
  rfl
set_option maxHeartbeats 1000000 in
theorem yp_m_tell0 {m : Mem} (hf : ¬ m (B + 517) 5 = -yp_N 1) (w a b c : Int32) : fX12_tellsStep (yp_SH B) (B + 517) w a b c m = some m := by
  have hM := yp_mS B
  have f := yp_m_fine0 hf
  simp (disch := omega) only [fX12_tellsStep, hM, f, Nat.reduceAdd, Nat.reduceMul, Nat.reduceSub, Nat.zero_add, Nat.add_zero, yp_LT, yp_nA, yp_nM, yp_ltF, yp_ltT, yp_leF, yp_leT, yp_eqF, eq_self, yp_eqM, yp_lt1N, yp_sbN, yp_sb2N, ↓reduceIte, ↓yp_iP11, ↓yp_iP12, ↓yp_m0P]
set_option maxHeartbeats 1000000 in
theorem yp_m_fin {Sm : Nat → Mem → Option Mem} {o : Nat} {z : yp_WkT} {m m1 : Mem} {a : Nat × Nat} {q : Nat} (hn : n ≤ 150) (hm : yp_WM B m t n nf ng z o) (F : yp_Fr (yp_T46 B) m m1) (hr : yp_RS B m1 a) (hq : a.1 = 0 → yp_RT B m1 t n q) (q1 : z.1 + 3 ≤ q) (q2 : q ≤ n) (v1 v2 v3 : Int32) (x : yp_Rw) (hx : a.1 = 0 → v1 = yp_N x.2.1 ∧ v2 = yp_N x.2.2.1 ∧ v3 = yp_N x.2.2.2.1) (hw : x.1 < 6) : ∃ m', fX12_readStep_j140 (yp_SH B) Sm (B + 517) (yp_N x.1) v1 v2 v3 m1 = some m' ∧ yp_Fr (yp_TWm B z.2.1) m m' ∧ yp_RS B m' (yp_fa a (yp_sgk t n q 59, yp_sk t n q)) ∧ ((yp_fa a (yp_sgk t n q 59, yp_sk t n q)).1 = 0 → yp_WM B m' t n nf ng (yp_psh x z (yp_sk t n q + 1)) o ∧ yp_rowM B m' z.2.1 x) := by
  have hM := yp_mS B
  have h4 := hm.2.2.2.1
  by_cases k : a.1 = 0
  · obtain ⟨x1, x2, x3⟩ := hx k
    have c30 : m1 (B + 517) 30 = yp_N (4 * z.2.1) := (F _ _ (by unfold yp_T46; omega)).trans hm.2.2.1
    have e1 := yp_m_tell1 (hr.fine k) c30 (by omega) (yp_N x.1) v1 v2 v3
    obtain ⟨m2, hm2⟩ : ∃ m2, m2 = yp_tel B m1 (4 * z.2.1) (yp_N x.1) v1 v2 v3 := ⟨_, rfl⟩
    rw [← hm2] at e1
    have G2 : ∀ b j, ¬ (b = B + 517 ∧ j = 30) → ¬ (b = B + 530 ∧ 4 * z.2.1 ≤ j) → m2 b j = m1 b j := fun b j g1 g2 => by rw [hm2, yp_tel_n g1 (by omega)]
    have tv := yp_tel_v B m1 (4 * z.2.1) (yp_N x.1) v1 v2 v3
    rw [← hm2] at tv
    obtain ⟨m3, d1, d2, d3, d4⟩ := yp_r_sg (m := m2) (t := t) (n := n) (p := q) (hr.fr (fun j g => G2 _ j (by omega) (by omega))) (fun kk => (hq kk).fr (fun b j g => G2 b j (by omega) (by omega))) q2 (by omega) 59 (by omega) (by omega)
    have hs := yp_sk_ge t n q
    refine ⟨m3, ?_, fun b j g => ?_, d3, fun kk => ⟨⟨d4 kk, d3.fine kk, ?_, ?_, ⟨?_, ?_⟩, ?_⟩, ?_, ?_, ?_, ?_⟩⟩
    · simp (disch := omega) only [↓yp_lt1N, fX12_readStep_j140, fX12_readStep_j151, e1, d1, Nat.reduceAdd, Nat.reduceMul, Nat.reduceSub, Nat.zero_add, Nat.add_zero, yp_LT, yp_nA, yp_nM, yp_ltF, yp_ltT, yp_leF, yp_leT, yp_eqF, eq_self, yp_eqM, yp_lt1N, yp_sbN, yp_sb2N, ↓reduceIte, ↓yp_iP11, ↓yp_iP12, ↓yp_m0P]
    · unfold yp_TWm at g
      rw [d2 b j (by unfold yp_T46; omega), G2 b j (by omega) (by omega), F b j (by unfold yp_T46; omega)]
    · rw [d2 _ _ (by unfold yp_T46; omega), tv.2.2.2.2]
      exact congrArg yp_N (by show 4 * z.2.1 + 4 = 4 * (z.2.1 + 1); omega)
    · show 4 * (z.2.1 + 1) ≤ yp_sk t n q + 1
      omega
    · rw [d2 _ _ (by unfold yp_T46; omega), G2 _ _ (by omega) (by omega), F _ _ (by unfold yp_T46; omega)]; exact hm.2.2.2.2.1.1
    · rw [d2 _ _ (by unfold yp_T46; omega), G2 _ _ (by omega) (by omega), F _ _ (by unfold yp_T46; omega)]; exact hm.2.2.2.2.1.2
    · rw [d2 _ _ (by unfold yp_T46; omega), G2 _ _ (by omega) (by omega), F _ _ (by unfold yp_T46; omega)]; exact hm.2.2.2.2.2
    · rw [d2 _ _ (by unfold yp_T46; omega), tv.1]
    · rw [d2 _ _ (by unfold yp_T46; omega), tv.2.1, x1]
    · rw [d2 _ _ (by unfold yp_T46; omega), tv.2.2.1, x2, if_neg (by omega)]
    · rw [d2 _ _ (by unfold yp_T46; omega), tv.2.2.2.1, x3]
  · have nf := hr.bad k
    have e1 := yp_m_tell0 nf (yp_N x.1) v1 v2 v3
    have e2 := yp_m_signX nf (yp_N 59)
    refine ⟨m1, ?_, yp_TWm_t F, by rw [yp_fa2 _ k]; exact hr, fun kk => absurd (yp_fa0 kk).1 k⟩
    simp (disch := omega) only [↓yp_lt1N, fX12_readStep_j140, fX12_readStep_j151, e1, e2, Nat.reduceAdd, Nat.reduceMul, Nat.reduceSub, Nat.zero_add, Nat.add_zero, yp_LT, yp_nA, yp_nM, yp_ltF, yp_ltT, yp_leF, yp_leT, yp_eqF, eq_self, yp_eqM, yp_lt1N, yp_sbN, yp_sb2N, ↓reduceIte, ↓yp_iP11, ↓yp_iP12, ↓yp_m0P]
set_option maxHeartbeats 1000000 in
theorem yp_m_simple {Sm : Nat → Mem → Option Mem} {o : Nat} {z : yp_WkT} (hn : n ≤ 150) (hnf : nf ≤ 6) (hng : ng ≤ 8) (h1 : z.1 ≤ n) (h4 : 4 * z.2.1 ≤ z.1) (w : Nat) (hw : yp_widx yp_C3 (yp_wC t n z.1) = w) (w6 : w < 6) : yp_KWm B t n nf ng o z (yp_fa (yp_spN t n nf ng w (yp_wE t n z.1)).1 (yp_sgk t n (yp_spN t n nf ng w (yp_wE t n z.1)).2.1 59, yp_sk t n (yp_spN t n nf ng w (yp_wE t n z.1)).2.1), yp_psh (yp_spR t n nf ng w (yp_wE t n z.1) o) z (yp_sk t n (yp_spN t n nf ng w (yp_wE t n z.1)).2.1 + 1)) (fun m => fX12_readStep_o (yp_SH B) Sm (B + 517) m) := by
  intro m hm
  have hM := yp_mS B
  have hs := yp_sk_ge t n z.1
  have hs2 := yp_sk_le (t := t) h1
  have hw3 := yp_w3_len (t := t) h1 (by rw [hw]; omega)
  have hw2 := yp_wE_le (t := t) h1
  have hn6 : n ≤ 600 := by omega
  have e0 := yp_m_word hm.1
  have e1 := yp_stepOf1 (v := yp_wC t n z.1) (by rw [hw]; omega)
  rw [hw] at e1
  have q := hm.1.at hs2
  have e2 := yp_m_pass q
  rw [yp_rAt2] at e2
  have e2 : fX12_pass (yp_SH B) (B + 517) (yp_rAt B m (yp_sk t n z.1)) = some (yp_rAt B m (yp_wE t n z.1)) := e2
  have c := yp_nE_le (t := t) hw2
  have d := yp_nE_le (t := t) c
  have g0 := yp_nE_ge t n (yp_wE t n z.1)
  have g1 := yp_sk_ge t n (yp_wE t n z.1)
  have g2 := yp_nE_ge t n (yp_nE t n (yp_wE t n z.1))
  have g3 := yp_sk_ge t n (yp_nE t n (yp_wE t n z.1))
  have g4 := yp_nE_ge t n (yp_nE t n (yp_nE t n (yp_wE t n z.1)))
  have g5 := yp_sk_ge t n (yp_nE t n (yp_nE t n (yp_wE t n z.1)))
  have out : (∃ m', fX12_readStep_o (yp_SH B) Sm (B + 517) m = some m' ∧ yp_Fr (yp_TWm B z.2.1) m m' ∧ yp_RS B m' (yp_fa (yp_spN t n nf ng w (yp_wE t n z.1)).1 (yp_sgk t n (yp_spN t n nf ng w (yp_wE t n z.1)).2.1 59, yp_sk t n (yp_spN t n nf ng w (yp_wE t n z.1)).2.1)) ∧ ((yp_fa (yp_spN t n nf ng w (yp_wE t n z.1)).1 (yp_sgk t n (yp_spN t n nf ng w (yp_wE t n z.1)).2.1 59, yp_sk t n (yp_spN t n nf ng w (yp_wE t n z.1)).2.1)).1 = 0 → yp_WM B m' t n nf ng (yp_psh (yp_spR t n nf ng w (yp_wE t n z.1) o) z (yp_sk t n (yp_spN t n nf ng w (yp_wE t n z.1)).2.1 + 1)) o ∧ yp_rowM B m' z.2.1 (yp_spR t n nf ng w (yp_wE t n z.1) o))) := by
    have r0 : yp_RS B (yp_rAt B m (yp_wE t n z.1)) (0, 0) := ⟨⟨Nat.zero_le 3, Nat.zero_le 600⟩, .inl ⟨rfl, (yp_rAt_n _ (by omega)).trans hm.2.1⟩⟩
    have t0 := hm.1.at hw2
    by_cases w5 : w = 5
    · subst w5
      have sp : yp_spN t n nf ng 5 (yp_wE t n z.1) = ((0, 0), yp_wE t n z.1, 0, 0, 0) := if_pos rfl
      have sr : yp_spR t n nf ng 5 (yp_wE t n z.1) o = (5, 0, 0, 0, 0, o) := by unfold yp_spR; rw [sp]
      rw [sp, sr]
      dsimp only
      obtain ⟨m', f1, f2, f3, f4⟩ := yp_m_fin (Sm := Sm) (x := (5, 0, 0, 0, 0, o)) hn hm (yp_Fr_rAt _) r0 (fun _ => t0) (by omega) hw2 (yp_N 0) (yp_N 0) (yp_N 0) (fun _ => ⟨rfl, rfl, rfl⟩) (show 5 < 6 by decide)
      have f1 : fX12_readStep_j140 (yp_SH B) Sm (B + 517) (yp_N 5) (yp_N 0) (yp_N 0) (yp_N 0) (yp_rAt B m (yp_wE t n z.1)) = some m' := f1
      refine ⟨m', ?_, f2, f3, f4⟩
      simp (disch := omega) only [↓yp_lt1N, fX12_readStep_o, fX12_readStep_j55, fX12_readStep_j103, ↓yp_bdP e0, ↓yp_opP e1, ↓yp_opP e2, f1, Nat.reduceAdd, Nat.reduceMul, Nat.reduceSub, Nat.zero_add, Nat.add_zero, yp_LT, yp_nA, yp_nM, yp_ltF, yp_ltT, yp_leF, yp_leT, yp_eqF, eq_self, yp_eqM, yp_lt1N, yp_sbN, yp_sb2N, ↓reduceIte, ↓yp_iP11, ↓yp_iP12, ↓yp_m0P]
    · obtain ⟨v1, m1, a1, a2, a3, a4⟩ := yp_r_num (m := yp_rAt B m (yp_wE t n z.1)) (t := t) (n := n) (p := yp_wE t n z.1) r0 (fun _ => t0) hw2 hn6 0 nf (yp_N nf - yp_N 1) (yp_hx1 (by omega)) (by omega) (by omega)
      rw [yp_fa1 _ rfl] at a3 a4
      have F1 : yp_Fr (yp_T46 B) m m1 := (yp_Fr_rAt _).tr a2
      have a1' : fX12_readFellow (yp_SH B) (B + 517) (yp_rAt B m (yp_wE t n z.1)) = some (v1, m1) := by
        have c17 : yp_rAt B m (yp_wE t n z.1) (B + 517) 17 = yp_N nf := (yp_rAt_n _ (by omega)).trans hm.2.2.2.2.1.1
        simp (disch := omega) only [fX12_readFellow, hM, c17, a1, Nat.reduceAdd, Nat.reduceMul, Nat.reduceSub, Nat.zero_add, Nat.add_zero, yp_LT, yp_nA, yp_nM, yp_ltF, yp_ltT, yp_leF, yp_leT, yp_eqF, eq_self, yp_eqM, yp_lt1N, yp_sbN, yp_sb2N, ↓reduceIte, ↓yp_iP11, ↓yp_iP12, ↓yp_m0P]
      have c17 : yp_rAt B m (yp_wE t n z.1) (B + 517) 17 = yp_N nf := (yp_rAt_n _ (by omega)).trans hm.2.2.2.2.1.1
      have b17 : m1 (B + 517) 17 = yp_N nf := (F1 _ _ (by unfold yp_T46; omega)).trans hm.2.2.2.2.1.1
      have b18 : m1 (B + 517) 18 = yp_N ng := (F1 _ _ (by unfold yp_T46; omega)).trans hm.2.2.2.2.1.2
      by_cases w2 : w < 2
      · have sp : yp_spN t n nf ng w (yp_wE t n z.1) = (yp_fa (yp_nK t n 0 nf (yp_wE t n z.1), yp_sk t n (yp_wE t n z.1)) (yp_nK t n 0 ng (yp_nE t n (yp_wE t n z.1)), yp_sk t n (yp_nE t n (yp_wE t n z.1))), yp_nE t n (yp_nE t n (yp_wE t n z.1)), yp_nV t n (yp_wE t n z.1), yp_nV t n (yp_nE t n (yp_wE t n z.1)), 0) := by unfold yp_spN; rw [if_neg w5, if_pos w2]
        have sr : yp_spR t n nf ng w (yp_wE t n z.1) o = (w, yp_nV t n (yp_wE t n z.1), yp_nV t n (yp_nE t n (yp_wE t n z.1)), 0, 0, o) := by unfold yp_spR; rw [sp]
        rw [sp, sr]
        dsimp only
        obtain ⟨v2, m2, d1, d2, d3, d4⟩ := yp_r_num (m := m1) (t := t) (n := n) (p := yp_nE t n (yp_wE t n z.1)) a3 (fun k => (a4 k).1) c hn6 0 ng (yp_N ng - yp_N 1) (yp_hx1 (by omega)) (by omega) (by omega)
        obtain ⟨m', f1, f2, f3, f4⟩ := yp_m_fin (Sm := Sm) (x := (w, yp_nV t n (yp_wE t n z.1), yp_nV t n (yp_nE t n (yp_wE t n z.1)), 0, 0, o)) hn hm (F1.tr d2) d3 (fun k => (d4 k).1) (by omega) d v1 v2 (yp_N 0) (fun k => ⟨(a4 (yp_fa0 k).1).2, (d4 k).2, rfl⟩) w6
        have f1 : fX12_readStep_j140 (yp_SH B) Sm (B + 517) (yp_N w) v1 v2 (yp_N 0) m2 = some m' := f1
        refine ⟨m', ?_, f2, f3, f4⟩
        have r18 : rI (yp_SH B) m1 12 (B + 517) 18 = some (yp_N ng) := by rw [hM.2.2.1, b18]
        have d1' : fX12_readNumber (yp_SH B) (B + 517) 0 (yp_N ng - 1) m1 = some (v2, m2) := d1
        have : w = 0 ∨ w = 1 := by omega
        rcases this with rfl | rfl
        · simp (disch := omega) only [↓yp_lt1N, fX12_readStep_o, fX12_readStep_j55, fX12_readStep_j103, ↓yp_bdP e0, ↓yp_opP e1, ↓yp_opP e2, ↓yp_bdP a1', ↓yp_opP r18, ↓yp_bdP d1', f1, Nat.reduceAdd, Nat.reduceMul, Nat.reduceSub, Nat.zero_add, Nat.add_zero, yp_LT, yp_nA, yp_nM, yp_ltF, yp_ltT, yp_leF, yp_leT, yp_eqF, eq_self, yp_eqM, yp_lt1N, yp_sbN, yp_sb2N, ↓reduceIte, ↓yp_iP11, ↓yp_iP12, ↓yp_m0P]
        · simp (disch := omega) only [↓yp_lt1N, fX12_readStep_o, fX12_readStep_j55, fX12_readStep_j103, ↓yp_bdP e0, ↓yp_opP e1, ↓yp_opP e2, ↓yp_bdP a1', ↓yp_opP r18, ↓yp_bdP d1', f1, Nat.reduceAdd, Nat.reduceMul, Nat.reduceSub, Nat.zero_add, Nat.add_zero, yp_LT, yp_nA, yp_nM, yp_ltF, yp_ltT, yp_leF, yp_leT, yp_eqF, eq_self, yp_eqM, yp_lt1N, yp_sbN, yp_sb2N, ↓reduceIte, ↓yp_iP11, ↓yp_iP12, ↓yp_m0P]
      · by_cases w4 : w = 4
        · subst w4
          have sp : yp_spN t n nf ng 4 (yp_wE t n z.1) = (yp_fa (yp_fa (yp_nK t n 0 nf (yp_wE t n z.1), yp_sk t n (yp_wE t n z.1)) (yp_nK t n 0 nf (yp_nE t n (yp_wE t n z.1)), yp_sk t n (yp_nE t n (yp_wE t n z.1)))) (yp_nK t n 0 7 (yp_nE t n (yp_nE t n (yp_wE t n z.1))), yp_sk t n (yp_nE t n (yp_nE t n (yp_wE t n z.1)))), yp_nE t n (yp_nE t n (yp_nE t n (yp_wE t n z.1))), yp_nV t n (yp_wE t n z.1), yp_nV t n (yp_nE t n (yp_wE t n z.1)), yp_nV t n (yp_nE t n (yp_nE t n (yp_wE t n z.1)))) := by unfold yp_spN; rw [if_neg w5, if_neg w2, if_pos rfl]
          have sr : yp_spR t n nf ng 4 (yp_wE t n z.1) o = (4, yp_nV t n (yp_wE t n z.1), yp_nV t n (yp_nE t n (yp_wE t n z.1)), yp_nV t n (yp_nE t n (yp_nE t n (yp_wE t n z.1))), 0, o) := by unfold yp_spR; rw [sp]
          rw [sp, sr]
          dsimp only
          obtain ⟨v2, m2, d1, d2, d3, d4⟩ := yp_r_num (m := m1) (t := t) (n := n) (p := yp_nE t n (yp_wE t n z.1)) a3 (fun k => (a4 k).1) c hn6 0 nf (yp_N nf - yp_N 1) (yp_hx1 (by omega)) (by omega) (by omega)
          obtain ⟨v3, m3, i1, i2, i3, i4⟩ := yp_r_num (m := m2) (t := t) (n := n) (p := yp_nE t n (yp_nE t n (yp_wE t n z.1))) d3 (fun k => (d4 k).1) d hn6 0 7 (yp_N 6) (by rw [yp_tiN (by omega)]; omega) (by omega) (by omega)
          obtain ⟨m', f1, f2, f3, f4⟩ := yp_m_fin (Sm := Sm) (x := (4, yp_nV t n (yp_wE t n z.1), yp_nV t n (yp_nE t n (yp_wE t n z.1)), yp_nV t n (yp_nE t n (yp_nE t n (yp_wE t n z.1))), 0, o)) hn hm ((F1.tr d2).tr i2) i3 (fun k => (i4 k).1) (by omega) (yp_nE_le (t := t) d) v1 v2 v3 (fun k => ⟨(a4 (yp_fa0 (yp_fa0 k).1).1).2, (d4 (yp_fa0 k).1).2, (i4 k).2⟩) w6
          have f1 : fX12_readStep_j140 (yp_SH B) Sm (B + 517) (yp_N 4) v1 v2 v3 m3 = some m' := f1
          refine ⟨m', ?_, f2, f3, f4⟩
          have d1' : fX12_readFellow (yp_SH B) (B + 517) m1 = some (v2, m2) := by simp (disch := omega) only [fX12_readFellow, hM, b17, d1, Nat.reduceAdd, Nat.reduceMul, Nat.reduceSub, Nat.zero_add, Nat.add_zero, yp_LT, yp_nA, yp_nM, yp_ltF, yp_ltT, yp_leF, yp_leT, yp_eqF, eq_self, yp_eqM, yp_lt1N, yp_sbN, yp_sb2N, ↓reduceIte, ↓yp_iP11, ↓yp_iP12, ↓yp_m0P]
          have i1' : fX12_readNumber (yp_SH B) (B + 517) 0 6 m2 = some (v3, m3) := i1
          simp (disch := omega) only [↓yp_lt1N, fX12_readStep_o, fX12_readStep_j55, fX12_readStep_j103, ↓yp_bdP e0, ↓yp_opP e1, ↓yp_opP e2, ↓yp_bdP a1', ↓yp_bdP d1', ↓yp_bdP i1', f1, Nat.reduceAdd, Nat.reduceMul, Nat.reduceSub, Nat.zero_add, Nat.add_zero, yp_LT, yp_nA, yp_nM, yp_ltF, yp_ltT, yp_leF, yp_leT, yp_eqF, eq_self, yp_eqM, yp_lt1N, yp_sbN, yp_sb2N, ↓reduceIte, ↓yp_iP11, ↓yp_iP12, ↓yp_m0P]
        · have sp : yp_spN t n nf ng w (yp_wE t n z.1) = (yp_fa (yp_fa (yp_nK t n 0 nf (yp_wE t n z.1), yp_sk t n (yp_wE t n z.1)) (yp_nK t n 0 7 (yp_nE t n (yp_wE t n z.1)), yp_sk t n (yp_nE t n (yp_wE t n z.1)))) (yp_nK t n 1 41 (yp_nE t n (yp_nE t n (yp_wE t n z.1))), yp_sk t n (yp_nE t n (yp_nE t n (yp_wE t n z.1)))), yp_nE t n (yp_nE t n (yp_nE t n (yp_wE t n z.1))), yp_nV t n (yp_wE t n z.1), yp_nV t n (yp_nE t n (yp_wE t n z.1)), yp_nV t n (yp_nE t n (yp_nE t n (yp_wE t n z.1)))) := by unfold yp_spN; rw [if_neg w5, if_neg w2, if_neg w4]
          have sr : yp_spR t n nf ng w (yp_wE t n z.1) o = (w, yp_nV t n (yp_wE t n z.1), yp_nV t n (yp_nE t n (yp_wE t n z.1)), yp_nV t n (yp_nE t n (yp_nE t n (yp_wE t n z.1))), 0, o) := by unfold yp_spR; rw [sp]
          rw [sp, sr]
          dsimp only
          obtain ⟨v2, m2, d1, d2, d3, d4⟩ := yp_r_num (m := m1) (t := t) (n := n) (p := yp_nE t n (yp_wE t n z.1)) a3 (fun k => (a4 k).1) c hn6 0 7 (yp_N 6) (by rw [yp_tiN (by omega)]; omega) (by omega) (by omega)
          obtain ⟨v3, m3, i1, i2, i3, i4⟩ := yp_r_num (m := m2) (t := t) (n := n) (p := yp_nE t n (yp_nE t n (yp_wE t n z.1))) d3 (fun k => (d4 k).1) d hn6 1 41 (yp_N 40) (by rw [yp_tiN (by omega)]; omega) (by omega) (by omega)
          obtain ⟨m', f1, f2, f3, f4⟩ := yp_m_fin (Sm := Sm) (x := (w, yp_nV t n (yp_wE t n z.1), yp_nV t n (yp_nE t n (yp_wE t n z.1)), yp_nV t n (yp_nE t n (yp_nE t n (yp_wE t n z.1))), 0, o)) hn hm ((F1.tr d2).tr i2) i3 (fun k => (i4 k).1) (by omega) (yp_nE_le (t := t) d) v1 v2 v3 (fun k => ⟨(a4 (yp_fa0 (yp_fa0 k).1).1).2, (d4 (yp_fa0 k).1).2, (i4 k).2⟩) w6
          have f1 : fX12_readStep_j140 (yp_SH B) Sm (B + 517) (yp_N w) v1 v2 v3 m3 = some m' := f1
          refine ⟨m', ?_, f2, f3, f4⟩
          have d1' : fX12_readNumber (yp_SH B) (B + 517) 0 6 m1 = some (v2, m2) := d1
          have i1' : fX12_readNumber (yp_SH B) (B + 517) 1 40 m2 = some (v3, m3) := i1
          have : w = 2 ∨ w = 3 := by omega
          rcases this with rfl | rfl
          · simp (disch := omega) only [↓yp_lt1N, fX12_readStep_o, fX12_readStep_j55, fX12_readStep_j103, fX12_readStep_j114, ↓yp_bdP e0, ↓yp_opP e1, ↓yp_opP e2, ↓yp_bdP a1', ↓yp_bdP d1', ↓yp_bdP i1', f1, Nat.reduceAdd, Nat.reduceMul, Nat.reduceSub, Nat.zero_add, Nat.add_zero, yp_LT, yp_nA, yp_nM, yp_ltF, yp_ltT, yp_leF, yp_leT, yp_eqF, eq_self, yp_eqM, yp_lt1N, yp_sbN, yp_sb2N, ↓reduceIte, ↓yp_iP11, ↓yp_iP12, ↓yp_m0P]
          · simp (disch := omega) only [↓yp_lt1N, fX12_readStep_o, fX12_readStep_j55, fX12_readStep_j103, fX12_readStep_j114, ↓yp_bdP e0, ↓yp_opP e1, ↓yp_opP e2, ↓yp_bdP a1', ↓yp_bdP d1', ↓yp_bdP i1', f1, Nat.reduceAdd, Nat.reduceMul, Nat.reduceSub, Nat.zero_add, Nat.add_zero, yp_LT, yp_nA, yp_nM, yp_ltF, yp_ltT, yp_leF, yp_leT, yp_eqF, eq_self, yp_eqM, yp_lt1N, yp_sbN, yp_sb2N, ↓reduceIte, ↓yp_iP11, ↓yp_iP12, ↓yp_m0P]
  obtain ⟨m', f1, f2, f3, f4⟩ := out
  refine ⟨m', f1, f2, f3, fun k => ⟨(f4 k).1, fun kr k1 kl => ?_⟩⟩
  have kl : kr < z.2.1 + 1 := kl
  have : kr = z.2.1 := by omega
  subst this
  have e : (yp_psh (yp_spR t n nf ng w (yp_wE t n z.1) o) z (yp_sk t n (yp_spN t n nf ng w (yp_wE t n z.1)).2.1 + 1)).2.2 z.2.1 = yp_spR t n nf ng w (yp_wE t n z.1) o := if_pos rfl
  show yp_rowM B m' z.2.1 ((yp_psh (yp_spR t n nf ng w (yp_wE t n z.1) o) z (yp_sk t n (yp_spN t n nf ng w (yp_wE t n z.1)).2.1 + 1)).2.2 z.2.1)
  rw [e]
  exact (f4 k).2
end SIMPLE2

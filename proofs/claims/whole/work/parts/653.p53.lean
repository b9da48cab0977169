def yp_agF (t : Nat → Nat) (n e : Nat) : Nat × Nat := yp_fa (yp_nK t n 0 41 e, yp_sk t n e) (yp_sgk t n (yp_nE t n e) 91, yp_sk t n (yp_nE t n e))
def yp_agZ (t : Nat → Nat) (n o e : Nat) (z : yp_WkT) : yp_WkT := yp_psh (6, yp_nV t n e, 0, 0, 0, o) z (yp_sk t n (yp_nE t n e) + 1)
def yp_agE (t : Nat → Nat) (n o e : Nat) (z : yp_WkT) (r : yp_WkR) : yp_WkR := ((yp_sgk t n (r.2.1 + 1) 59, yp_sk t n (r.2.1 + 1)), (yp_sk t n (r.2.1 + 1) + 1, r.2.2.1, fun i => if i = z.2.1 then (6, yp_nV t n e, 0, 0, r.2.2.1, o) else r.2.2.2 i))
def yp_agW (t : Nat → Nat) (n o : Nat) (S : yp_WkT → Option yp_WkR) (z : yp_WkT) : Option yp_WkR :=
  if (yp_agF t n (yp_wE t n z.1)).1 = 0 then (S (yp_agZ t n o (yp_wE t n z.1) z)).bind (fun r => if r.1.1 = 0 then some (yp_agE t n o (yp_wE t n z.1) z r) else some r) else some (yp_agF t n (yp_wE t n z.1), z)
section AGAIN
variable {B : Nat} {t : Nat → Nat} {n nf ng : Nat}
def yp_KSs (B : Nat) (t : Nat → Nat) (n nf ng o : Nat) (S : yp_WkT → Option yp_WkR) (fc : Mem → Option (Int32 × Mem)) (fm : Mem → Option Mem) : Prop := ∀ z : yp_WkT, z.1 ≤ n → 4 * z.2.1 ≤ z.1 → ∃ r, S z = some r ∧ yp_fok r.1 ∧ (r.1.1 = 0 → yp_PW n nf ng o z r.2 ∧ yp_stp t n o r.2.1 = 0 ∧ yp_sk t n r.2.1 = r.2.1) ∧ yp_KWc B t n nf ng z r fc ∧ yp_KWm B t n nf ng o z r fm
set_option maxHeartbeats 1000000 in
theorem yp_m_openA {m : Mem} {p o : Nat} (hf : m (B + 517) 5 = -yp_N 1) (c4 : m (B + 517) 4 = yp_N p) (c7 : m (B + 517) 7 = yp_N o) (ho : o ≤ 5) (b : Nat) : fX12_opensOne (yp_SH B) (B + 517) (yp_N b) m = some (up2 (yp_rAt B m (p + b)) (B + 517) 7 (yp_N (o + 1))) := by
  have hM := yp_mS B
  have f := yp_m_fine1 hf
  have g7 : up2 m (B + 517) 4 (yp_N (p + b)) (B + 517) 7 = yp_N o := by rw [yp_up2_n _ _ (by omega)]; exact c7
  simp (disch := omega) only [fX12_opensOne_j42, fX12_opensOne_j25, fX12_opensOne, hM, f, c4, c7, g7, Nat.reduceAdd, Nat.reduceMul, Nat.reduceSub, Nat.zero_add, Nat.add_zero, yp_LT, yp_nA, yp_nM, yp_ltF, yp_ltT, yp_leF, yp_leT, yp_eqF, eq_self, yp_eqM, yp_lt1N, yp_sbN, yp_sb2N, ↓reduceIte, ↓yp_iP11, ↓yp_iP12, ↓yp_m0P]
  rfl
set_option maxHeartbeats 1000000 in
theorem yp_m_openB {m : Mem} {p : Nat} (hf : m (B + 517) 5 = -yp_N 1) (c4 : m (B + 517) 4 = yp_N p) (c7 : m (B + 517) 7 = yp_N 6) (hp : p ≤ 600) (b : Int32) : fX12_opensOne (yp_SH B) (B + 517) b m = some (up2 (yp_rF B m 3 p) (B + 517) 7 (yp_N 7)) := by
  have hM := yp_mS B
  have f := yp_m_fine1 hf
  have g1 := yp_m_wrong1 hf 3 p
  have f2 := yp_m_fine0 (yp_rF_x (B := B) (m := m) (k := 3) (x := p) (by omega))
  have g7 : yp_rF B m 3 p (B + 517) 7 = yp_N 6 := by rw [yp_rF_n _ _ (by omega)]; exact c7
  simp (disch := omega) only [fX12_opensOne_j42, fX12_opensOne_j25, fX12_opensOne, hM, f, c4, c7, g1, f2, g7, Nat.reduceAdd, Nat.reduceMul, Nat.reduceSub, Nat.zero_add, Nat.add_zero, yp_LT, yp_nA, yp_nM, yp_ltF, yp_ltT, yp_leF, yp_leT, yp_eqF, eq_self, yp_eqM, yp_lt1N, yp_sbN, yp_sb2N, ↓reduceIte, ↓yp_iP11, ↓yp_iP12, ↓yp_m0P]
set_option maxHeartbeats 1000000 in
theorem yp_agF_ok {e : Nat} (he : e ≤ n) (hn : n ≤ 150) : yp_fok (yp_agF t n e) := yp_fa_ok (yp_nKs_ok he (by omega) _ _) (yp_sgk_ok (yp_nE_le (t := t) he) (by omega) _)
set_option maxHeartbeats 1000000 in
theorem yp_agZ_le {z : yp_WkT} {o e : Nat} (h4 : 4 * z.2.1 ≤ z.1) (he : z.1 + 3 ≤ e) (hf : (yp_agF t n e).1 = 0) : (yp_agZ t n o e z).1 ≤ n ∧ 4 * (yp_agZ t n o e z).2.1 ≤ (yp_agZ t n o e z).1 ∧ z.1 + 5 ≤ (yp_agZ t n o e z).1 := by
  obtain ⟨f1, f2, _⟩ := yp_fa0 hf
  have k1 := (yp_nK_0 f1).1
  have k2 := (yp_sgk0 f2).1
  have a := yp_sk_ge t n e
  have b := yp_sk_ge t n (yp_nE t n e)
  show yp_sk t n (yp_nE t n e) + 1 ≤ n ∧ 4 * (z.2.1 + 1) ≤ yp_sk t n (yp_nE t n e) + 1 ∧ z.1 + 5 ≤ yp_sk t n (yp_nE t n e) + 1
  omega
set_option maxHeartbeats 1000000 in
theorem yp_agP {z : yp_WkT} {o e : Nat} {r : yp_WkR} (h4 : 4 * z.2.1 ≤ z.1) (he : z.1 + 3 ≤ e) (ho : o ≤ 5) (hf : (yp_agF t n e).1 = 0) (h : yp_PW n nf ng (o + 1) (yp_agZ t n o e z) r.2) (hk : yp_sgk t n (r.2.1 + 1) 59 = 0) : yp_PW n nf ng o z (yp_agE t n o e z r).2 ∧ z.1 + 4 ≤ (yp_agE t n o e z r).2.1 := by
  have hz := yp_agZ_le (o := o) h4 he hf
  obtain ⟨p1, p2, p3, p4, p5, p6⟩ := h
  have p3 : z.2.1 + 1 ≤ r.2.2.1 := p3
  have p4 : 4 * r.2.2.1 + (yp_agZ t n o e z).1 ≤ r.2.1 + 4 * (z.2.1 + 1) := p4
  have k1 := (yp_sgk0 hk).1
  have k2 := yp_sk_ge t n (r.2.1 + 1)
  have k3 := (yp_nK_0 (yp_fa0 hf).1).2.2
  have e1 : (yp_agE t n o e z r).2.2.2 z.2.1 = (6, yp_nV t n e, 0, 0, r.2.2.1, o) := if_pos rfl
  have e2 : ∀ k, k ≠ z.2.1 → (yp_agE t n o e z r).2.2.2 k = r.2.2.2 k := fun k hk => if_neg hk
  refine ⟨⟨by show z.1 ≤ yp_sk t n (r.2.1 + 1) + 1; omega, by show yp_sk t n (r.2.1 + 1) + 1 ≤ n; omega, by show z.2.1 ≤ r.2.2.1; omega, by show 4 * r.2.2.1 + z.1 ≤ yp_sk t n (r.2.1 + 1) + 1 + 4 * z.2.1; omega, fun k hk => ?_, fun k h1 h2 => ?_⟩, by show z.1 + 4 ≤ yp_sk t n (r.2.1 + 1) + 1; omega⟩
  · rw [e2 k (by omega), p5 k (by show k < z.2.1 + 1; omega)]
    exact if_neg (show k ≠ z.2.1 by omega)
  · have h2 : k < r.2.2.1 := h2
    by_cases ek : k = z.2.1
    · subst ek
      unfold yp_rwOK
      rw [e1]
      refine ⟨Nat.le_refl o, .inr (.inr (.inr (.inr ⟨rfl, by show yp_nV t n _ ≤ 40; omega, p3, Nat.le_refl _, ho, fun j j1 j2 => ?_⟩)))⟩
      rw [e2 j (by omega)]
      exact (p6 j (by show z.2.1 + 1 ≤ j; omega) j2).1
    · have q := p6 k (by show z.2.1 + 1 ≤ k; omega) h2
      have q2 := yp_rwOK_c (R' := (yp_agE t n o e z r).2.2.2) q (Nat.le_refl _) h2 (fun j j1 j2 => e2 j (by omega))
      exact ⟨by have := q2.1; omega, q2.2⟩
set_option maxHeartbeats 1000000 in
theorem yp_c_again {S : yp_WkT → Option yp_WkR} {Sc : Nat → Int32 → Mem → Option (Int32 × Mem)} {fm : Mem → Option Mem} {o : Nat} {z : yp_WkT} (hn : n ≤ 150) (h1 : z.1 ≤ n) (h4 : 4 * z.2.1 ≤ z.1) (ho : o ≤ 5) (hw : yp_widx yp_C3 (yp_wC t n z.1) = 6) (hS0 : yp_KSs B t n nf ng (o + 1) S (fun m => Sc (B + 27) (yp_N (o + 1)) m) fm) (r' : yp_WkR) (hr : yp_agW t n o S z = some r') : yp_KWc B t n nf ng z r' (yp_cst B Sc o) := by
  intro m hm
  have hS := yp_wspS B
  have hA := yp_wspA B
  have hT := yp_tapS B
  have hs := yp_sk_ge t n z.1
  have hw3 := yp_w3_len (t := t) h1 (by rw [hw]; omega)
  have hw2 := yp_wE_le (t := t) h1
  obtain ⟨e0, e1⟩ := yp_c_pre3 hm
  rw [hw] at e1
  rcases e1 with ⟨_, e1⟩ | ⟨e1, _⟩
  rotate_left
  · omega
  have g := hm.at (q := yp_wE t n z.1) (by omega) hw2
  have c8 : yp_cAt B m (yp_wE t n z.1) (B + 27) 8 = yp_N z.2.1 := g.2.2.1
  obtain ⟨m16, hm16⟩ : ∃ m16, m16 = up2 (yp_cAt B m (yp_wE t n z.1)) (B + 27) 8 (yp_N (z.2.1 + 1)) := ⟨_, rfl⟩
  obtain ⟨m18, hm18⟩ : ∃ m18, m18 = up2 m16 (B + 28) z.2.1 (yp_N 6) := ⟨_, rfl⟩
  have G18 : ∀ a j, ¬ (a = B + 27 ∧ j = 8) → ¬ (a = B + 28 ∧ j = z.2.1) → m18 a j = yp_cAt B m (yp_wE t n z.1) a j := fun a j q1 q2 => by rw [hm18, yp_up2_n _ _ (by omega), hm16, yp_up2_n _ _ (by omega)]
  have t18 : yp_CT B m18 t n (yp_wE t n z.1) := g.1.fr (fun a j q => G18 a j (by omega) (by omega))
  have f18 : yp_FL B m18 = (yp_N 0, -yp_N 1) := by rw [← g.2.1]; exact yp_FL_fr (fun j q => G18 _ j (by omega) (by omega))
  have k8 : m18 (B + 27) 8 = yp_N (z.2.1 + 1) := by rw [hm18, yp_up2_n _ _ (by omega), hm16, yp_up2_s]
  have k28 : m18 (B + 28) z.2.1 = yp_N 6 := by rw [hm18, yp_up2_s]
  have F18 : yp_Fr (yp_TWc B z.2.1) m m18 := fun a j q => by
    unfold yp_TWc at q
    rw [G18 a j (by omega) (by omega), yp_cAt_n _ (by omega)]
  obtain ⟨v24, m25, m26, a1, a2, a3, a4, a5, a6⟩ := yp_k_cell (a := (0, 0)) t18 (by rw [f18]; rfl) ⟨Nat.zero_le 3, Nat.zero_le 600⟩ 0 41 (yp_N 40) (by rw [yp_tiN (by omega)]; omega) (by omega) (by omega) 29 z.2.1 (by omega) (by omega)
  rw [yp_fa1 _ rfl] at a4
  have a1n := a1
  have a1 : fX8_number (yp_SH B) (B + 1) 0 40 m18 = some (v24, m25) := a1
  have F26 : yp_Fr (yp_TWc B z.2.1) m m26 := F18.tr (fun a j q => a6 a j (by unfold yp_TWc at q; omega) (by unfold yp_TWc at q; omega))
  have k26 : m26 (B + 27) 8 = yp_N (z.2.1 + 1) := (a6 _ _ (by omega) (by omega)).trans k8
  have Fe : ∀ (mx : Mem) (v : Int32), yp_Fr (yp_TWc B z.2.1) mx (up2 mx (B + 32) z.2.1 v) := fun mx v => yp_Fr.rf.up (by unfold yp_TWc; omega)
  have FLe : ∀ (mx : Mem) (v : Int32), yp_FL B (up2 mx (B + 32) z.2.1 v) = yp_FL B mx := fun mx v => yp_FL_fr (fun j q => yp_up2_n _ _ (by omega))
  have so2 : yp_N o + 1 = yp_N (o + 1) := yp_nA o 1
  unfold yp_agW at hr
  by_cases kf : (yp_agF t n (yp_wE t n z.1)).1 = 0
  rotate_left
  · rw [if_neg kf] at hr
    obtain rfl : (yp_agF t n (yp_wE t n z.1), z) = r' := Option.some.inj hr
    by_cases kn : yp_nK t n 0 41 (yp_wE t n z.1) = 0
    · have ef : yp_agF t n (yp_wE t n z.1) = (yp_sgk t n (yp_nE t n (yp_wE t n z.1)) 91, yp_sk t n (yp_nE t n (yp_wE t n z.1))) := yp_fa1 _ kn
      rw [yp_FLk_0 kn] at a4
      have x1 := (yp_c_whole B m26).1 (congrArg Prod.fst a4)
      obtain ⟨v31, m32, q, d1, d2, d3, d4, d5, d6⟩ := yp_k_wan (a := (0, 0)) a3 (by rw [a4]; rfl) ⟨Nat.zero_le 3, Nat.zero_le 600⟩ 91 (by omega)
      rw [yp_fa1 _ rfl, ← ef] at d6
      have k2 : ¬ yp_sgk t n (yp_nE t n (yp_wE t n z.1)) 91 = 0 := by rw [ef] at kf; exact kf
      have d1n : fX8_wants (yp_SH B) (B + 1) (yp_N 91) m26 = some (yp_N 0, m32) := by rw [← d5 k2]; exact d1
      have d1 : fX8_wants (yp_SH B) (B + 1) 91 m26 = some (yp_N 0, m32) := d1n
      have st : fX10_readStep_o (yp_SH B) Sc (B + 27) (yp_N o) m = some (yp_N 0, up2 m32 (B + 32) z.2.1 (m32 (B + 27) 8)) := by
        simp (disch := omega) only [↓yp_lt1N, fX10_readStep_o, fX10_readStep_j59, ↓yp_opP hS.1.1, ↓yp_iP8, ↓yp_bdP e0, ↓yp_bdP e1, hS, hA, fX10_readStep_j154, fX10_readStep_j155, c8, ← hm16, ← hm18, ↓yp_bdP a1, a1n, ← a2, ↓yp_opP x1, x1, ↓yp_bdP d1, d1n, yp_ck0, Nat.reduceAdd, Nat.reduceMul, Nat.reduceSub, Nat.zero_add, Nat.add_zero, yp_LT, yp_nA, yp_nM, yp_ltF, yp_ltT, yp_leF, yp_leT, yp_eqF, eq_self, yp_eqM, yp_lt1N, yp_sbN, yp_sb2N, ↓reduceIte, ↓yp_iP11, ↓yp_iP12, ↓yp_m0P]
      refine ⟨up2 m32 (B + 32) z.2.1 (m32 (B + 27) 8), ?_, (F26.tr (yp_TWc_t d2)).tr (Fe _ _), by rw [FLe]; exact d6, fun q => absurd q kf⟩
      rw [yp_cst0 st, if_neg kf]
    · have ef : yp_agF t n (yp_wE t n z.1) = (yp_nK t n 0 41 (yp_wE t n z.1), yp_sk t n (yp_wE t n z.1)) := yp_fa2 _ kn
      rw [← ef] at a4
      have a4' := a4
      rw [yp_FLk_1 kf] at a4'
      have x1 := (yp_c_whole B m26).2 (by
        have q : m26 (B + 1) 4 = yp_N (yp_agF t n (yp_wE t n z.1)).1 := congrArg Prod.fst a4'
        rw [q, yp_eqN (by have := (yp_agF_ok (t := t) hw2 hn).1; omega) (by omega)]; exact kf)
      have st : fX10_readStep_o (yp_SH B) Sc (B + 27) (yp_N o) m = some (yp_N 0, up2 m26 (B + 32) z.2.1 (yp_N (z.2.1 + 1))) := by
        simp (disch := omega) only [↓yp_lt1N, fX10_readStep_o, fX10_readStep_j59, ↓yp_opP hS.1.1, ↓yp_iP8, ↓yp_bdP e0, ↓yp_bdP e1, hS, hA, fX10_readStep_j154, fX10_readStep_j155, c8, ← hm16, ← hm18, ↓yp_bdP a1, a1n, ← a2, ↓yp_opP x1, x1, k26, yp_ck0, Nat.reduceAdd, Nat.reduceMul, Nat.reduceSub, Nat.zero_add, Nat.add_zero, yp_LT, yp_nA, yp_nM, yp_ltF, yp_ltT, yp_leF, yp_leT, yp_eqF, eq_self, yp_eqM, yp_lt1N, yp_sbN, yp_sb2N, ↓reduceIte, ↓yp_iP11, ↓yp_iP12, ↓yp_m0P]
      refine ⟨up2 m26 (B + 32) z.2.1 (yp_N (z.2.1 + 1)), ?_, F26.tr (Fe _ _), by rw [FLe]; exact a4, fun q => absurd q kf⟩
      rw [yp_cst0 st, if_neg kf]
  rw [if_pos kf] at hr
  obtain ⟨kn, kg, _⟩ := yp_fa0 kf
  have kn : yp_nK t n 0 41 (yp_wE t n z.1) = 0 := kn
  have kg : yp_sgk t n (yp_nE t n (yp_wE t n z.1)) 91 = 0 := kg
  rw [yp_FLk_0 kn] at a4
  have x1 := (yp_c_whole B m26).1 (congrArg Prod.fst a4)
  obtain ⟨v31, m32, q, d1, d2, d3, d4, d5, d6⟩ := yp_k_wan (a := (0, 0)) a3 (by rw [a4]; rfl) ⟨Nat.zero_le 3, Nat.zero_le 600⟩ 91 (by omega)
  rw [yp_fa1 _ rfl, yp_FLk_0 kg] at d6
  have d1n : fX8_wants (yp_SH B) (B + 1) (yp_N 91) m26 = some (yp_N 1, m32) := by rw [← (d4 kg).1]; exact d1
  have d1 : fX8_wants (yp_SH B) (B + 1) 91 m26 = some (yp_N 1, m32) := d1n
  have d3 : yp_CT B m32 t n (yp_sk t n (yp_nE t n (yp_wE t n z.1)) + 1) := by rw [← (d4 kg).2]; exact d3
  have hz := yp_agZ_le (t := t) (o := o) h4 (show z.1 + 3 ≤ yp_wE t n z.1 by omega) kf
  have G32 : ∀ b j, ¬ (b = B + 1 ∧ (j = 3 ∨ j = 4 ∨ j = 5)) → m32 b j = m26 b j := fun b j q => d2 b j (by unfold yp_T35; omega)
  have F32 : yp_Fr (yp_TWc B z.2.1) m m32 := F26.tr (yp_TWc_t d2)
  have wz : yp_WC B m32 t n nf ng (yp_agZ t n o (yp_wE t n z.1) z) := ⟨d3, d6, (G32 _ _ (by omega)).trans k26, hz.2.1, by rw [F32 _ _ (by unfold yp_TWc; omega)]; exact hm.2.2.2.2.1, by rw [F32 _ _ (by unfold yp_TWc; omega)]; exact hm.2.2.2.2.2⟩
  obtain ⟨r, s1, s2, s3, s4, s5⟩ := hS0 (yp_agZ t n o (yp_wE t n z.1) z) hz.1 hz.2.1
  rw [s1] at hr
  obtain ⟨m35, i1, i2, i3, i4⟩ := s4 m32 wz
  have i2 : yp_Fr (yp_TWc B (z.2.1 + 1)) m32 m35 := i2
  have F35 : yp_Fr (yp_TWc B z.2.1) m m35 := F32.tr (yp_TWc_le i2 (by omega))
  by_cases k3 : r.1.1 = 0
  rotate_left
  · have hr : some r = some r' := (if_neg k3).symm.trans hr
    obtain rfl : r = r' := Option.some.inj hr
    rw [if_neg k3] at i1
    have i1n : Sc (B + 27) (yp_N (o + 1)) m32 = some (yp_N 0, m35) := i1
    have i1 : Sc (B + 27) (yp_N o + 1) m32 = some (yp_N 0, m35) := by rw [so2]; exact i1
    have st : fX10_readStep_o (yp_SH B) Sc (B + 27) (yp_N o) m = some (yp_N 0, up2 m35 (B + 32) z.2.1 (m35 (B + 27) 8)) := by
      simp (disch := omega) only [↓yp_lt1N, fX10_readStep_o, fX10_readStep_j59, ↓yp_opP hS.1.1, ↓yp_iP8, ↓yp_bdP e0, ↓yp_bdP e1, hS, hA, fX10_readStep_j154, fX10_readStep_j155, c8, ← hm16, ← hm18, ↓yp_bdP a1, a1n, ← a2, ↓yp_opP x1, x1, ↓yp_bdP d1, d1n, ↓yp_bdP i1, i1n, yp_ck0, Nat.reduceAdd, Nat.reduceMul, Nat.reduceSub, Nat.zero_add, Nat.add_zero, yp_LT, yp_nA, yp_nM, yp_ltF, yp_ltT, yp_leF, yp_leT, yp_eqF, eq_self, yp_eqM, yp_lt1N, yp_sbN, yp_sb2N, ↓reduceIte, ↓yp_iP11, ↓yp_iP12, ↓yp_m0P]
    refine ⟨up2 m35 (B + 32) z.2.1 (m35 (B + 27) 8), ?_, F35.tr (Fe _ _), by rw [FLe]; exact i3, fun q => absurd q k3⟩
    rw [yp_cst0 st, if_neg k3]
  · have hr : some (yp_agE t n o (yp_wE t n z.1) z r) = some r' := (if_pos k3).symm.trans hr
    obtain rfl : yp_agE t n o (yp_wE t n z.1) z r = r' := Option.some.inj hr
    rw [if_pos k3] at i1
    have i1n : Sc (B + 27) (yp_N (o + 1)) m32 = some (yp_N 1, m35) := i1
    have i1 : Sc (B + 27) (yp_N o + 1) m32 = some (yp_N 1, m35) := by rw [so2]; exact i1
    obtain ⟨wr, rr⟩ := i4 k3
    obtain ⟨pw, ps, pk'⟩ := s3 k3
    have ps : yp_sgk t n r.2.1 93 = 0 := by
      unfold yp_stp at ps
      rw [if_neg (by omega)] at ps
      exact ps
    obtain ⟨v38, m39, q3, l1, l2, l3, l4, l5, l6⟩ := yp_k_wan (a := (0, 0)) wr.1 (by rw [wr.2.1]; rfl) ⟨Nat.zero_le 3, Nat.zero_le 600⟩ 93 (by omega)
    rw [yp_fa1 _ rfl, yp_FLk_0 ps] at l6
    have l1n : fX8_wants (yp_SH B) (B + 1) (yp_N 93) m35 = some (yp_N 1, m39) := by rw [← (l4 ps).1]; exact l1
    have l1 : fX8_wants (yp_SH B) (B + 1) 93 m35 = some (yp_N 1, m39) := l1n
    have l3 : yp_CT B m39 t n (r.2.1 + 1) := by
      have := (l4 ps).2
      rw [pk'] at this
      rw [← this]
      exact l3
    have G39 : ∀ b j, ¬ (b = B + 1 ∧ (j = 3 ∨ j = 4 ∨ j = 5)) → m39 b j = m35 b j := fun b j q => l2 b j (by unfold yp_T35; omega)
    have k39 : m39 (B + 27) 8 = yp_N r.2.2.1 := (G39 _ _ (by omega)).trans wr.2.2.1
    obtain ⟨m40, hm40⟩ : ∃ m40, m40 = up2 m39 (B + 32) z.2.1 (yp_N r.2.2.1) := ⟨_, rfl⟩
    have st : fX10_readStep_o (yp_SH B) Sc (B + 27) (yp_N o) m = some (yp_N 1, m40) := by
      simp (disch := omega) only [↓yp_lt1N, fX10_readStep_o, fX10_readStep_j59, ↓yp_opP hS.1.1, ↓yp_iP8, ↓yp_bdP e0, ↓yp_bdP e1, hS, hA, fX10_readStep_j154, fX10_readStep_j155, c8, ← hm16, ← hm18, ↓yp_bdP a1, a1n, ← a2, ↓yp_opP x1, x1, ↓yp_bdP d1, d1n, ↓yp_bdP i1, i1n, ↓yp_bdP l1, l1n, k39, ← hm40, yp_ck1, Nat.reduceAdd, Nat.reduceMul, Nat.reduceSub, Nat.zero_add, Nat.add_zero, yp_LT, yp_nA, yp_nM, yp_ltF, yp_ltT, yp_leF, yp_leT, yp_eqF, eq_self, yp_eqM, yp_lt1N, yp_sbN, yp_sb2N, ↓reduceIte, ↓yp_iP11, ↓yp_iP12, ↓yp_m0P]
    have G40 : ∀ b j, ¬ (b = B + 32 ∧ j = z.2.1) → m40 b j = m39 b j := fun b j q => by rw [hm40, yp_up2_n _ _ (by omega)]
    obtain ⟨v, m41, q4, y1, y2, y3, y4, y5, y6⟩ := yp_k_wan (a := (0, 0)) (l3.fr (m' := m40) (fun a j q => G40 a j (by omega))) (by rw [show yp_FL B m40 = yp_FL B m39 from yp_FL_fr (fun j q => G40 _ j (by omega)), l6]; rfl) ⟨Nat.zero_le 3, Nat.zero_le 600⟩ 59 (by omega)
    rw [yp_fa1 _ rfl] at y6
    have F41 : yp_Fr (yp_TWc B z.2.1) m m41 := ((F35.tr (yp_TWc_t l2)).tr (by rw [hm40]; exact Fe _ _)).tr (yp_TWc_t y2)
    have G41 : ∀ b j, ¬ (b = B + 1 ∧ (j = 3 ∨ j = 4 ∨ j = 5)) → m41 b j = m40 b j := fun b j q => y2 b j (by unfold yp_T35; omega)
    refine ⟨m41, ?_, F41, y6, fun kk => ?_⟩
    · rw [yp_cst1 st, y1]
      by_cases k5 : yp_sgk t n (r.2.1 + 1) 59 = 0
      · rw [(y4 k5).1, if_pos (show (yp_agE t n o (yp_wE t n z.1) z r).1.1 = 0 from k5)]
      · rw [y5 k5, if_neg (show ¬ (yp_agE t n o (yp_wE t n z.1) z r).1.1 = 0 from k5)]
    · have k5 : yp_sgk t n (r.2.1 + 1) 59 = 0 := kk
      have ap := yp_agP (nf := nf) (ng := ng) h4 (show z.1 + 3 ≤ yp_wE t n z.1 by omega) ho kf pw k5
      refine ⟨⟨?_, by rw [y6]; exact yp_FLk_0 kk, ?_, ?_, ?_, ?_⟩, fun k k1 k2 => ?_⟩
      · show yp_CT B m41 t n (yp_sk t n (r.2.1 + 1) + 1)
        rw [← (y4 k5).2]; exact y3
      · rw [G41 _ _ (by omega), G40 _ _ (by omega)]; exact k39
      · have := ap.1.2.2.2.1
        have : 4 * r.2.2.1 + z.1 ≤ (yp_agE t n o (yp_wE t n z.1) z r).2.1 + 4 * z.2.1 := this
        show 4 * r.2.2.1 ≤ (yp_agE t n o (yp_wE t n z.1) z r).2.1
        omega
      · rw [F41 _ _ (by unfold yp_TWc; omega)]; exact hm.2.2.2.2.1
      · rw [F41 _ _ (by unfold yp_TWc; omega)]; exact hm.2.2.2.2.2
      · have k2 : k < r.2.2.1 := k2
        by_cases e : k = z.2.1
        · subst e
          have ee : (yp_agE t n o (yp_wE t n z.1) z r).2.2.2 z.2.1 = (6, yp_nV t n (yp_wE t n z.1), 0, 0, r.2.2.1, o) := if_pos rfl
          rw [ee]
          have pr : ∀ a, B + 28 ≤ a → a ≤ B + 31 → m41 a z.2.1 = m26 a z.2.1 := fun a a1 a2 => by
            rw [G41 _ _ (by omega), G40 _ _ (by omega), G39 _ _ (by omega), i2 _ _ (by unfold yp_TWc; omega), G32 _ _ (by omega)]
          refine ⟨?_, fun _ => ?_, fun q5 => absurd q5 (show ¬ (6 : Nat) < 5 by decide), fun _ q6 => absurd q6 (show ¬ (6 : Nat) ≤ 4 by decide), fun _ => ?_⟩
          · rw [pr _ (by omega) (by omega), a6 _ _ (by omega) (by omega)]; exact k28
          · rw [pr _ (by omega) (by omega)]; exact a5 kn
          · rw [G41 _ _ (by omega), hm40, yp_up2_s]
        · have ee : (yp_agE t n o (yp_wE t n z.1) z r).2.2.2 k = r.2.2.2 k := if_neg e
          rw [ee]
          exact (rr k (by show z.2.1 + 1 ≤ k; omega) k2).fr (fun a a1 a2 => by rw [G41 _ _ (by omega), G40 _ _ (by omega), G39 _ _ (by omega)])
end AGAIN

section ASK6
variable {B : Nat} {mm : Mem} {A : yp_St}
set_option maxHeartbeats 1000000 in
theorem yp_lpM {S X : Type} {step : S → Option (S ⊕ X)} : ∀ {n m : Nat} {s : S} {x : X}, loopN step n s = some x → n ≤ m → loopN step m s = some x := by
  intro n
  induction n with
  | zero => intro m s x h; cases h
  | succ n ih =>
    intro m s x h hm
    obtain ⟨k, rfl⟩ : ∃ k, m = k + 1 := ⟨m - 1, by omega⟩
    unfold loopN at h ⊢
    cases hs : step s with
    | none => rw [hs] at h; cases h
    | some y =>
      rw [hs] at h
      cases y with
      | inl t => exact ih h (by omega)
      | inr r => exact h
set_option maxHeartbeats 1000000 in
theorem yp_lp1 {S X : Type} {step : S → Option (S ⊕ X)} {s : S} {x : X} (h : step s = some (.inr x)) : loopN step FU s = some x := by
  refine yp_lpM (n := 1) ?_ (by rw [yp_FUe]; omega)
  unfold loopN
  rw [h]
  rfl
set_option maxHeartbeats 1000000 in
theorem yp_c_sum2 {m : Mem} {Q : yp_EnvT} {H : Nat → Int32} (hE : yp_EV Q) (hC : yp_CLc B m Q) (f c s p : Nat) (hp : p < 100) (hT : ∀ g, g < yp_qg Q → m (B + 26) g = yp_TV Q H f c g (H (f * 7 + c))) : (yp_thV Q H f c s = some (yp_N p) ∧ fX5_sumOfTurns (yp_SH B) (B + 23) (yp_N s) m = some (yp_N p)) ∨ (¬ yp_thV Q H f c s = some (yp_N p) ∧ ∃ w, fX5_sumOfTurns (yp_SH B) (B + 23) (yp_N s) m = some w ∧ ¬ w = yp_N p) := by
  have h := yp_c_sumTurns hE hC f c s hT
  cases hv : yp_thV Q H f c s with
  | none =>
    rw [hv] at h
    refine .inr ⟨by simp, -yp_N 1, h, ?_⟩
    rw [yp_eqM' (by omega)]
    exact id
  | some v =>
    rw [hv] at h
    by_cases e : v = yp_N p
    · rw [e] at h ⊢; exact .inl ⟨rfl, h⟩
    · exact .inr ⟨fun h2 => e (by injection h2), v, h, e⟩
set_option maxHeartbeats 1000000 in
theorem yp_p_through (hR : yp_RCc B mm A) (hI : yp_INV A) (x y z : Int32) : yp_PM B (fX11_through (yp_SH B) B x y z mm) (fun m => fX12_through (yp_SH B) (B + 517) x y z m) hcB mm A := by
  have hA := yp_clsS B
  have hM := yp_mS B
  have hn := @yp_nd1 B mm
  have h0 := @yp_nd0 B mm A hR
  have hq := hI.1.1
  have hqg := hI.1.2.1
  have hw := hI.1.2.2.2.1
  have hp2 := yp_p2le hqg
  have h1s := yp_sh1 (yp_qg (yp_sQ A)) hqg
  rcases yp_c_needF hR hI x with ⟨f, hf, rfl, hc⟩ | ⟨hb, hc⟩
  rotate_left
  · exact yp_PM_e0 hR hI (by simp (disch := omega) only [fX11_through_j104, fX11_through_j98, fX11_through_j94, fX11_through_j26, fX11_through_j25, fX11_through, hA, ↓yp_bdP hc, ↓yp_smL, ↓yp_smR, Nat.reduceAdd, Nat.reduceMul, Nat.reduceSub, Nat.zero_add, Nat.add_zero, yp_LT, yp_nA, yp_nM, yp_ltF, yp_ltT, yp_leF, yp_leT, yp_eqF, eq_self, yp_eqM, lt1, yp_sbN, yp_sb2N, ↓reduceIte, ↓yp_iP11, ↓yp_iP12, ↓yp_m0P]) (fun m hm => by simp (disch := omega) only [fX12_through_j49, fX12_through_j198, fX12_through_j192, fX12_through_j177, fX12_through_j171, fX12_through_j145, fX12_through_j99, fX12_through_j94, fX12_through_j41, fX12_through_j40, fX12_through, hM, yp_m0e, yp_m_isF0 hm hI hb, Nat.reduceAdd, Nat.reduceMul, Nat.reduceSub, Nat.zero_add, Nat.add_zero, yp_LT, yp_nA, yp_nM, yp_ltF, yp_ltT, yp_leF, yp_leT, yp_eqF, eq_self, yp_eqM, lt1, yp_sbN, yp_sb2N, ↓reduceIte, ↓yp_iP11, ↓yp_iP12, ↓yp_m0P]) rfl
  have hf6 : f < 6 := by omega
  rcases yp_partR y with ⟨c, hcc, rfl, q1, q2⟩ | ⟨q1, q2⟩
  rotate_left
  · exact yp_PM_e1 hR hI (by simp (disch := omega) only [fX11_through_j104, fX11_through_j98, fX11_through_j94, fX11_through_j26, fX11_through_j25, fX11_through, hA, ↓yp_bdP hc, ↓h0, ↓yp_opP q1, ↓yp_smL, ↓yp_smR, Nat.reduceAdd, Nat.reduceMul, Nat.reduceSub, Nat.zero_add, Nat.add_zero, yp_LT, yp_nA, yp_nM, yp_ltF, yp_ltT, yp_leF, yp_leT, yp_eqF, eq_self, yp_eqM, lt1, yp_sbN, yp_sb2N, ↓reduceIte, ↓yp_iP11, ↓yp_iP12, ↓yp_m0P]) (fun m hm => by simp (disch := omega) only [fX12_through_j49, fX12_through_j198, fX12_through_j192, fX12_through_j177, fX12_through_j171, fX12_through_j145, fX12_through_j99, fX12_through_j94, fX12_through_j41, fX12_through_j40, fX12_through, hM, yp_m0e, yp_m_isF1 hm hI hf, ↓yp_opP q2, yp_may21, Nat.reduceAdd, Nat.reduceMul, Nat.reduceSub, Nat.zero_add, Nat.add_zero, yp_LT, yp_nA, yp_nM, yp_ltF, yp_ltT, yp_leF, yp_leT, yp_eqF, eq_self, yp_eqM, lt1, yp_sbN, yp_sb2N, ↓reduceIte, ↓yp_iP11, ↓yp_iP12, ↓yp_m0P]) rfl yp_n2
  rcases yp_plR hR hI z with ⟨p, hp, rfl, hpc⟩ | ⟨hb, hpc⟩
  rotate_left
  · refine yp_PM_e1 hR hI (by simp (disch := omega) only [fX11_through_j104, fX11_through_j98, fX11_through_j94, fX11_through_j26, fX11_through_j25, fX11_through, hA, ↓yp_bdP hc, ↓h0, ↓yp_opP q1, hpc, ↓yp_smL, ↓yp_smR, Nat.reduceAdd, Nat.reduceMul, Nat.reduceSub, Nat.zero_add, Nat.add_zero, yp_LT, yp_nA, yp_nM, yp_ltF, yp_ltT, yp_leF, yp_leT, yp_eqF, eq_self, yp_eqM, lt1, yp_sbN, yp_sb2N, ↓reduceIte, ↓yp_iP11, ↓yp_iP12, ↓yp_m0P]) (fun m hm => ?_) rfl yp_n2
    have e := (yp_m0R hm).1.2.2.1
    have e2 := yp_wi_bad (by omega) hb
    simp (disch := omega) only [fX12_through_j49, fX12_through_j198, fX12_through_j192, fX12_through_j177, fX12_through_j171, fX12_through_j145, fX12_through_j99, fX12_through_j94, fX12_through_j41, fX12_through_j40, fX12_through, hM, yp_m0e, yp_m_isF1 hm hI hf, ↓yp_opP q2, e, e2, yp_may21, Nat.reduceAdd, Nat.reduceMul, Nat.reduceSub, Nat.zero_add, Nat.add_zero, yp_LT, yp_nA, yp_nM, yp_ltF, yp_ltT, yp_leF, yp_leT, yp_eqF, eq_self, yp_eqM, lt1, yp_sbN, yp_sb2N, ↓reduceIte, ↓yp_iP11, ↓yp_iP12, ↓yp_m0P]
  obtain ⟨m1, t1, t2, t3⟩ := yp_c_allTurns hI.1 hR.1 hR.2.1 f c hf6 hcc
  have hC1 : yp_CLc B m1 (yp_sQ A) := hR.1.fr (fun a j h => t3 a j (by omega))
  have c1 := hC1.2.1
  have L1 : loopN (fun st : Int32 × Int32 => fX11_through_b48 (yp_SH B) B (yp_N p) st.1 st.2 m1) FU (-yp_N 1, yp_N 0) = some (yp_oN (yp_fo (yp_trG (yp_sQ A) (yp_sH A) f c p) (2 ^ yp_qg (yp_sQ A)) none)) := by
    refine yp_lpF (fun k s => (yp_oN s, yp_N k)) (yp_trG (yp_sQ A) (yp_sH A) f c p) yp_oN (2 ^ yp_qg (yp_sQ A)) none (fun k z hk hz => ?_) (fun z hz => ?_) (by rw [yp_FUe]; omega) rfl
    · rcases yp_c_sum2 hI.1 hC1 f c k p (by omega) t2 with ⟨g1, g2⟩ | ⟨g1, w, g2, g3⟩
      · cases z with
        | none => simp (disch := omega) only [fX11_through_b48, fX11_through_j94, fX11_through_j98, hA, c1, h1s, g1, g2, yp_oN, yp_trG, Nat.reduceAdd, Nat.reduceMul, Nat.reduceSub, Nat.zero_add, Nat.add_zero, yp_LT, yp_nA, yp_nM, yp_ltF, yp_ltT, yp_leF, yp_leT, yp_eqF, eq_self, yp_eqM, lt1, yp_sbN, yp_sb2N, ↓reduceIte, ↓yp_iP11, ↓yp_iP12, ↓yp_m0P]
        | some b =>
          have hb := yp_fo_lt (yp_tr_g (yp_sQ A) (yp_sH A) f c p) k b hz.symm
          have e1 := yp_bcE k (by omega)
          have e2 := yp_bcE b (by omega)
          have e3 := yp_pcn8 k
          have e4 := yp_pcn8 b
          by_cases e : yp_pcn b ≤ yp_pcn k
          · simp (disch := omega) only [fX11_through_b48, fX11_through_j94, fX11_through_j98, hA, c1, h1s, g1, g2, yp_oN, yp_trG, e1, e2, e, Nat.reduceAdd, Nat.reduceMul, Nat.reduceSub, Nat.zero_add, Nat.add_zero, yp_LT, yp_nA, yp_nM, yp_ltF, yp_ltT, yp_leF, yp_leT, yp_eqF, eq_self, yp_eqM, lt1, yp_sbN, yp_sb2N, ↓reduceIte, ↓yp_iP11, ↓yp_iP12, ↓yp_m0P]
          · simp (disch := omega) only [fX11_through_b48, fX11_through_j94, fX11_through_j98, hA, c1, h1s, g1, g2, yp_oN, yp_trG, e1, e2, e, Nat.reduceAdd, Nat.reduceMul, Nat.reduceSub, Nat.zero_add, Nat.add_zero, yp_LT, yp_nA, yp_nM, yp_ltF, yp_ltT, yp_leF, yp_leT, yp_eqF, eq_self, yp_eqM, lt1, yp_sbN, yp_sb2N, ↓reduceIte, ↓yp_iP11, ↓yp_iP12, ↓yp_m0P]
      · simp (disch := omega) only [fX11_through_b48, fX11_through_j94, fX11_through_j98, hA, c1, h1s, g1, g2, g3, yp_trG, Nat.reduceAdd, Nat.reduceMul, Nat.reduceSub, Nat.zero_add, Nat.add_zero, yp_LT, yp_nA, yp_nM, yp_ltF, yp_ltT, yp_leF, yp_leT, yp_eqF, eq_self, yp_eqM, lt1, yp_sbN, yp_sb2N, ↓reduceIte, ↓yp_iP11, ↓yp_iP12, ↓yp_m0P]
    · simp (disch := omega) only [fX11_through_b48, hA, c1, h1s, Nat.reduceAdd, Nat.reduceMul, Nat.reduceSub, Nat.zero_add, Nat.add_zero, yp_LT, yp_nA, yp_nM, yp_ltF, yp_ltT, yp_leF, yp_leT, yp_eqF, eq_self, yp_eqM, lt1, yp_sbN, yp_sb2N, ↓reduceIte, ↓yp_iP11, ↓yp_iP12, ↓yp_m0P]
  refine yp_PM_v hR hI (v := yp_oN (yp_fo (yp_trG (yp_sQ A) (yp_sH A) f c p) (2 ^ yp_qg (yp_sQ A)) none)) (m1 := m1) ?_ (fun a j k => t3 a j (by unfold yp_KC at k; omega)) (fun m hm => ?_)
  · simp (disch := omega) only [fX11_through_j104, fX11_through_j98, fX11_through_j94, fX11_through_j26, fX11_through_j25, fX11_through, hA, ↓yp_bdP hc, ↓hn, ↓yp_opP q1, hpc, ↓yp_smL, ↓yp_smR, t1, L1, Nat.reduceAdd, Nat.reduceMul, Nat.reduceSub, Nat.zero_add, Nat.add_zero, yp_LT, yp_nA, yp_nM, yp_ltF, yp_ltT, yp_leF, yp_leT, yp_eqF, eq_self, yp_eqM, lt1, yp_sbN, yp_sb2N, ↓reduceIte, ↓yp_iP11, ↓yp_iP12, ↓yp_m0P]
  · obtain ⟨m2, a1, a2, a3, a4, a5, a6⟩ := yp_take_MA hm
    obtain ⟨r, k1, k2, k3⟩ := yp_lpI (step := fun st : Int32 × Int32 × Mem => fX12_through_b61 (yp_SH B) (B + 517) (yp_N f) (yp_N c) (yp_N p) st.1 st.2.1 st.2.2) (fun k st => ∃ m', st = (yp_oN (yp_fo (yp_trG (yp_sQ A) (yp_sH A) f c p) k none), yp_N k, m') ∧ yp_Fr (yp_TM B) m2 m') (fun r => r.1 = yp_oN (yp_fo (yp_trG (yp_sQ A) (yp_sH A) f c p) (2 ^ yp_qg (yp_sQ A)) none) ∧ yp_Fr (yp_TM B) m2 r.2) (2 ^ yp_qg (yp_sQ A)) (fun k st hk hJ => by
      obtain ⟨m', rfl, hF⟩ := hJ
      have c2 : m' (B + 517) 18 = yp_N (yp_qg (yp_sQ A)) := (hF _ _ (by unfold yp_TM; omega)).trans a3.2.1
      by_cases e : k = 2 ^ yp_qg (yp_sQ A)
      · subst e
        exact .inr ⟨(yp_oN (yp_fo (yp_trG (yp_sQ A) (yp_sH A) f c p) (2 ^ yp_qg (yp_sQ A)) none), m'), by simp (disch := omega) only [fX12_through_b61, hM, c2, h1s, Nat.reduceAdd, Nat.reduceMul, Nat.reduceSub, Nat.zero_add, Nat.add_zero, yp_LT, yp_nA, yp_nM, yp_ltF, yp_ltT, yp_leF, yp_leT, yp_eqF, eq_self, yp_eqM, lt1, yp_sbN, yp_sb2N, ↓reduceIte, ↓yp_iP11, ↓yp_iP12, ↓yp_m0P], rfl, hF⟩
      · have hC2 : yp_CLm B m' (yp_sQ A) := a3.fr (fun a j h => hF a j (by unfold yp_TM; omega))
        have hH2 : yp_HM m' (B + 533) (yp_sH A) := a2.same (fun j => hF _ j (by unfold yp_TM; omega))
        obtain ⟨r, r1, r2, r3⟩ := yp_m_sumTurns hI.1 hC2 hH2 f c k hf6 hcc (yp_N p) (yp_oN (yp_fo (yp_trG (yp_sQ A) (yp_sH A) f c p) k none))
        have go : ∀ s : Option Nat, s = yp_fo (yp_trG (yp_sQ A) (yp_sH A) f c p) k none → (s = none ∨ ∃ b, s = some b ∧ ¬ yp_pcn b ≤ yp_pcn k) → fX12_through_j99 (yp_SH B) (B + 517) (yp_N f) (yp_N c) (yp_N p) (yp_oN s) (yp_N k) (yp_N 0) (yp_N 1) m' = some (.inl (yp_oN (yp_trG (yp_sQ A) (yp_sH A) f c p k s), yp_N (k + 1), r.2.2)) := by
          intro s hs hb
          rw [hs]
          rw [hs] at hb
          simp (disch := omega) only [fX12_through_j99, r1, Nat.reduceAdd, Nat.reduceMul, Nat.reduceSub, Nat.zero_add, Nat.add_zero, yp_LT, yp_nA, yp_nM, yp_ltF, yp_ltT, yp_leF, yp_leT, yp_eqF, eq_self, yp_eqM, lt1, yp_sbN, yp_sb2N, ↓reduceIte, ↓yp_iP11, ↓yp_iP12, ↓yp_m0P]
          generalize yp_fo (yp_trG (yp_sQ A) (yp_sH A) f c p) k none = s at hb r2 ⊢
          cases hv : yp_thV (yp_sQ A) (yp_sH A) f c k with
          | none =>
            rw [hv] at r2
            have g1 : ¬ yp_thV (yp_sQ A) (yp_sH A) f c k = some (yp_N p) := by rw [hv]; simp
            simp only at r2
            simp (disch := omega) only [fX12_through_j177, fX12_through_j192, r2, yp_trG, g1, Nat.reduceAdd, Nat.reduceMul, Nat.reduceSub, Nat.zero_add, Nat.add_zero, yp_LT, yp_nA, yp_nM, yp_ltF, yp_ltT, yp_leF, yp_leT, yp_eqF, eq_self, yp_eqM, lt1, yp_sbN, yp_sb2N, ↓reduceIte, ↓yp_iP11, ↓yp_iP12, ↓yp_m0P]
          | some v =>
            rw [hv] at r2
            by_cases e : v = yp_N p
            · have g1 : yp_thV (yp_sQ A) (yp_sH A) f c k = some (yp_N p) := by rw [hv, e]
              simp only at r2
              rcases hb with rfl | ⟨b, rfl, hb⟩
              · simp (disch := omega) only [fX12_through_j177, fX12_through_j192, r2, yp_trG, g1, yp_oN, e, Nat.reduceAdd, Nat.reduceMul, Nat.reduceSub, Nat.zero_add, Nat.add_zero, yp_LT, yp_nA, yp_nM, yp_ltF, yp_ltT, yp_leF, yp_leT, yp_eqF, eq_self, yp_eqM, lt1, yp_sbN, yp_sb2N, ↓reduceIte, ↓yp_iP11, ↓yp_iP12, ↓yp_m0P]
              · simp (disch := omega) only [fX12_through_j177, fX12_through_j192, r2, yp_trG, g1, yp_oN, e, hb, Nat.reduceAdd, Nat.reduceMul, Nat.reduceSub, Nat.zero_add, Nat.add_zero, yp_LT, yp_nA, yp_nM, yp_ltF, yp_ltT, yp_leF, yp_leT, yp_eqF, eq_self, yp_eqM, lt1, yp_sbN, yp_sb2N, ↓reduceIte, ↓yp_iP11, ↓yp_iP12, ↓yp_m0P]
            · have g1 : ¬ yp_thV (yp_sQ A) (yp_sH A) f c k = some (yp_N p) := by rw [hv]; intro h2; injection h2 with h2; exact e h2
              simp only at r2
              simp (disch := omega) only [fX12_through_j177, fX12_through_j192, r2, yp_trG, g1, e, Nat.reduceAdd, Nat.reduceMul, Nat.reduceSub, Nat.zero_add, Nat.add_zero, yp_LT, yp_nA, yp_nM, yp_ltF, yp_ltT, yp_leF, yp_leT, yp_eqF, eq_self, yp_eqM, lt1, yp_sbN, yp_sb2N, ↓reduceIte, ↓yp_iP11, ↓yp_iP12, ↓yp_m0P]
        cases hz : yp_fo (yp_trG (yp_sQ A) (yp_sH A) f c p) k none with
        | none =>
          refine .inl ⟨by omega, (yp_oN (yp_fo (yp_trG (yp_sQ A) (yp_sH A) f c p) (k + 1) none), yp_N (k + 1), r.2.2), ?_, _, rfl, hF.tr r3⟩
          have g := go none hz.symm (.inl rfl)
          rw [yp_fo_s, hz]
          simp only [yp_oN] at g
          simp (disch := omega) only [fX12_through_b61, fX12_through_j94, hM, c2, h1s, yp_oN, g, Nat.reduceAdd, Nat.reduceMul, Nat.reduceSub, Nat.zero_add, Nat.add_zero, yp_LT, yp_nA, yp_nM, yp_ltF, yp_ltT, yp_leF, yp_leT, yp_eqF, eq_self, yp_eqM, lt1, yp_sbN, yp_sb2N, ↓reduceIte, ↓yp_iP11, ↓yp_iP12, ↓yp_m0P]
        | some b =>
          have hb := yp_fo_lt (yp_tr_g (yp_sQ A) (yp_sH A) f c p) k b hz
          have e1 := yp_onE k (by omega)
          have e2 := yp_onE b (by omega)
          have e3 := yp_pcn8 k
          have e4 := yp_pcn8 b
          by_cases e5 : yp_pcn b ≤ yp_pcn k
          · refine .inl ⟨by omega, (yp_oN (yp_fo (yp_trG (yp_sQ A) (yp_sH A) f c p) (k + 1) none), yp_N (k + 1), m'), ?_, _, rfl, hF⟩
            have e6 : yp_trG (yp_sQ A) (yp_sH A) f c p k (some b) = some b := by
              unfold yp_trG
              simp only [e5, if_true]
              split <;> rfl
            have e7 : loopN (fun st : Int32 × Int32 × Int32 × Mem => fX12_through_b104 (yp_SH B) (B + 517) (yp_N f) (yp_N c) (yp_N p) (yp_N b) (yp_N k) st.1 st.2.1 st.2.2.1 st.2.2.2) FU (yp_N 0, yp_N 0, yp_N 0, m') = some (yp_N 0, yp_N 0, m') := yp_lp1 (by
              by_cases e8 : yp_qg (yp_sQ A) = 0
              · rw [e8] at c2
                simp (disch := omega) only [fX12_through_b104, hM, c2, Nat.reduceAdd, Nat.reduceMul, Nat.reduceSub, Nat.zero_add, Nat.add_zero, yp_LT, yp_nA, yp_nM, yp_ltF, yp_ltT, yp_leF, yp_leT, yp_eqF, eq_self, yp_eqM, lt1, yp_sbN, yp_sb2N, ↓reduceIte, ↓yp_iP11, ↓yp_iP12, ↓yp_m0P]
              · simp (disch := omega) only [fX12_through_b104, hM, c2, Nat.reduceAdd, Nat.reduceMul, Nat.reduceSub, Nat.zero_add, Nat.add_zero, yp_LT, yp_nA, yp_nM, yp_ltF, yp_ltT, yp_leF, yp_leT, yp_eqF, eq_self, yp_eqM, lt1, yp_sbN, yp_sb2N, ↓reduceIte, ↓yp_iP11, ↓yp_iP12, ↓yp_m0P])
            rw [yp_fo_s, hz, e6]
            simp (disch := omega) only [fX12_through_b61, fX12_through_j99, fX12_through_j177, fX12_through_j192, hM, c2, h1s, yp_oN, e1, e2, e7, Nat.reduceAdd, Nat.reduceMul, Nat.reduceSub, Nat.zero_add, Nat.add_zero, yp_LT, yp_nA, yp_nM, yp_ltF, yp_ltT, yp_leF, yp_leT, yp_eqF, eq_self, yp_eqM, lt1, yp_sbN, yp_sb2N, ↓reduceIte, ↓yp_iP11, ↓yp_iP12, ↓yp_m0P]
          · refine .inl ⟨by omega, (yp_oN (yp_fo (yp_trG (yp_sQ A) (yp_sH A) f c p) (k + 1) none), yp_N (k + 1), r.2.2), ?_, _, rfl, hF.tr r3⟩
            have g := go (some b) hz.symm (.inr ⟨b, rfl, e5⟩)
            rw [yp_fo_s, hz]
            simp only [yp_oN] at g
            simp (disch := omega) only [fX12_through_b61, fX12_through_j94, hM, c2, h1s, yp_oN, e1, e2, g, Nat.reduceAdd, Nat.reduceMul, Nat.reduceSub, Nat.zero_add, Nat.add_zero, yp_LT, yp_nA, yp_nM, yp_ltF, yp_ltT, yp_leF, yp_leT, yp_eqF, eq_self, yp_eqM, lt1, yp_sbN, yp_sb2N, ↓reduceIte, ↓yp_iP11, ↓yp_iP12, ↓yp_m0P]) (show 2 ^ yp_qg (yp_sQ A) < FU by rw [yp_FUe]; omega) (s0 := (-yp_N 1, yp_N 0, m2)) ⟨m2, rfl, yp_Fr.rf⟩
    refine ⟨r.2, ?_, (yp_FM.fs a6).tm k3⟩
    have e := (yp_m0R hm).1.2.2.1
    have e2 := yp_wi_good (by omega) hp
    simp (disch := omega) only [fX12_through_j49, fX12_through_j198, fX12_through_j192, fX12_through_j177, fX12_through_j171, fX12_through_j145, fX12_through_j99, fX12_through_j94, fX12_through_j41, fX12_through_j40, fX12_through, hM, yp_m0e, yp_m_isF1 hm hI hf, ↓yp_opP q2, e, e2, yp_mayG, a1, k1, k2, Nat.reduceAdd, Nat.reduceMul, Nat.reduceSub, Nat.zero_add, Nat.add_zero, yp_LT, yp_nA, yp_nM, yp_ltF, yp_ltT, yp_leF, yp_leT, yp_eqF, eq_self, yp_eqM, lt1, yp_sbN, yp_sb2N, ↓reduceIte, ↓yp_iP11, ↓yp_iP12, ↓yp_m0P]
def yp_VT (H : Nat → Int32) (f : Nat) (s : Int32) : Int32 := yp_sm (fun c => yp_bt s c * H (f * 7 + c)) 7
def yp_swV (H : Nat → Int32) (f c q s : Nat) : Int32 := if yp_bt (yp_N s) c = yp_N 0 then (if yp_N q ≤ yp_VT H f (yp_N s) then yp_N 0 else if yp_VT H f (yp_N s) + H (f * 7 + c) < yp_N q then yp_N 0 else yp_N 1) else yp_N 0
set_option maxHeartbeats 1000000 in
theorem yp_c_swing (hR : yp_RCc B mm A) (f c q s : Nat) (hf : f < 6) (hc : c < 7) : fX11_isSwing (yp_SH B) B (yp_N f) (yp_N c) (yp_N q) (yp_N s) mm = some (yp_swV (yp_sH A) f c q s) := by
  have hA := yp_clsS B
  have hX := yp_HSx (yp_hs33 B)
  have L : loopN (fun st : Int32 × Int32 => fX11_isSwing_b18 (yp_SH B) B (yp_N f) (yp_N c) (yp_N q) (yp_N s) st.1 st.2 mm) FU (yp_N 0, yp_N 0) = some (yp_VT (yp_sH A) f (yp_N s)) := by
    refine yp_lpF (fun k a => (a, yp_N k)) (fun c a => a + yp_bt (yp_N s) c * yp_sH A (f * 7 + c)) id 7 (yp_N 0) (fun k z hk hz => ?_) (fun z hz => ?_) (by rw [yp_FUe]; omega) rfl
    · have e := hR.2.1.1 (f * 7 + k) (by omega)
      simp (disch := omega) only [fX11_isSwing_b18, hA, hX, e, yp_bt, Nat.reduceAdd, Nat.reduceMul, Nat.reduceSub, Nat.zero_add, Nat.add_zero, yp_LT, yp_nA, yp_nM, yp_ltF, yp_ltT, yp_leF, yp_leT, yp_eqF, eq_self, yp_eqM, lt1, yp_sbN, yp_sb2N, ↓reduceIte, ↓yp_iP11, ↓yp_iP12, ↓yp_m0P]
    · simp (disch := omega) only [fX11_isSwing_b18, Nat.reduceAdd, Nat.reduceMul, Nat.reduceSub, Nat.zero_add, Nat.add_zero, yp_LT, yp_nA, yp_nM, yp_ltF, yp_ltT, yp_leF, yp_leT, yp_eqF, eq_self, yp_eqM, lt1, yp_sbN, yp_sb2N, ↓reduceIte, ↓yp_iP11, ↓yp_iP12, ↓yp_m0P]
      rfl
  have e := hR.2.1.1 (f * 7 + c) (by omega)
  unfold yp_swV
  rcases yp_bt01 (yp_N s) c with hb | hb
  · rw [if_pos hb]
    unfold yp_bt at hb
    have hb2 : ((yp_N s >>> (yp_N c &&& yp_N 31)) &&& yp_N 1 = yp_N 1) = False := by rw [hb]; exact eq_false (by decide)
    simp (disch := omega) only [fX11_isSwing, hb2, L, fX11_isSwing_j59, fX11_isSwing_j90, fX11_isSwing_j91, hA, hX, e, yp_ck0, yp_ck1, Nat.reduceAdd, Nat.reduceMul, Nat.reduceSub, Nat.zero_add, Nat.add_zero, yp_LT, yp_nA, yp_nM, yp_ltF, yp_ltT, yp_leF, yp_leT, yp_eqF, eq_self, yp_eqM, lt1, yp_sbN, yp_sb2N, ↓reduceIte, ↓yp_iP11, ↓yp_iP12, ↓yp_m0P]
    split
    · rfl
    · split <;> rfl
  · rw [if_neg (by rw [hb]; decide)]
    unfold yp_bt at hb
    simp (disch := omega) only [fX11_isSwing, hb, Nat.reduceAdd, Nat.reduceMul, Nat.reduceSub, Nat.zero_add, Nat.add_zero, yp_LT, yp_nA, yp_nM, yp_ltF, yp_ltT, yp_leF, yp_leT, yp_eqF, eq_self, yp_eqM, lt1, yp_sbN, yp_sb2N, ↓reduceIte, ↓yp_iP11, ↓yp_iP12, ↓yp_m0P]
set_option maxHeartbeats 1000000 in
theorem yp_m_votes {m : Mem} {H : Nat → Int32} (hH : yp_HM m (B + 532) H) (f : Nat) (hf : f < 6) (s : Int32) : fX12_votesOf (yp_SH B) (B + 517) (yp_N f) s m = some (yp_VT H f s) := by
  have hM := yp_mS B
  simp (disch := omega) only [fX12_votesOf_j40, fX12_votesOf, Nat.reduceAdd, Nat.reduceMul, Nat.reduceSub, Nat.zero_add, Nat.add_zero, yp_LT, yp_nA, yp_nM, yp_ltF, yp_ltT, yp_leF, yp_leT, yp_eqF, eq_self, yp_eqM, lt1, yp_sbN, yp_sb2N, ↓reduceIte, ↓yp_iP11, ↓yp_iP12, ↓yp_m0P]
  refine Eq.trans (yp_lpB (fun k a => (a, yp_N k)) (fun c a => a + yp_bt s c * H (f * 7 + c)) (id) (7) (yp_N 0) (by rw [yp_FUe]; omega) rfl (fun k z hk hz => ?_) (fun z hz => ?_)) ?_
  · have e := hH (f * 7 + k) (by omega)
    simp (disch := omega) only [fX12_votesOf_b5, hM, yp_m_in, e, yp_bt, Nat.reduceAdd, Nat.reduceMul, Nat.reduceSub, Nat.zero_add, Nat.add_zero, yp_LT, yp_nA, yp_nM, yp_ltF, yp_ltT, yp_leF, yp_leT, yp_eqF, eq_self, yp_eqM, lt1, yp_sbN, yp_sb2N, ↓reduceIte, ↓yp_iP11, ↓yp_iP12, ↓yp_m0P]
  · simp (disch := omega) only [fX12_votesOf_b5, Nat.reduceAdd, Nat.reduceMul, Nat.reduceSub, Nat.zero_add, Nat.add_zero, yp_LT, yp_nA, yp_nM, yp_ltF, yp_ltT, yp_leF, yp_leT, yp_eqF, eq_self, yp_eqM, lt1, yp_sbN, yp_sb2N, ↓reduceIte, ↓yp_iP11, ↓yp_iP12, ↓yp_m0P]
    rfl
  · simp only [id, yp_VT, yp_sm]
set_option maxHeartbeats 1000000 in
theorem yp_btOr (s c k : Nat) (hs : s < 128) (hc : c < 7) (hk : k < 7) : yp_bt (yp_N s ||| yp_b1 c) k = if k = c then yp_N 1 else yp_bt (yp_N s) k := by
  have h : ∀ s : Fin 128, ∀ c k : Fin 7, yp_bt (yp_N s.val ||| yp_b1 c.val) k.val = if k.val = c.val then yp_N 1 else yp_bt (yp_N s.val) k.val := by decide +kernel
  exact h ⟨s, hs⟩ ⟨c, hc⟩ ⟨k, hk⟩
set_option maxHeartbeats 1000000 in
theorem yp_sm_one {v w : Nat → Int32} {c : Nat} {d : Int32} (h : ∀ k, k ≠ c → w k = v k) (hc : w c = v c + d) : ∀ n, yp_sm w n = if c < n then yp_sm v n + d else yp_sm v n := by
  intro n
  induction n with
  | zero => rfl
  | succ n ih =>
    rw [yp_sm_s, yp_sm_s, ih]
    by_cases e : c = n
    · subst e
      rw [if_neg (by omega), if_pos (by omega), hc, Int32.add_assoc]
    · by_cases e2 : c < n
      · rw [if_pos e2, if_pos (by omega), h n (fun h => e h.symm), Int32.add_assoc, Int32.add_comm d, ← Int32.add_assoc]
      · rw [if_neg e2, if_neg (by omega), h n (fun h => e h.symm)]
set_option maxHeartbeats 1000000 in
theorem yp_VT_or (H : Nat → Int32) (f c s : Nat) (hs : s < 128) (hc : c < 7) (hb : yp_bt (yp_N s) c = yp_N 0) : yp_VT H f (yp_N s ||| yp_b1 c) = yp_VT H f (yp_N s) + H (f * 7 + c) := by
  have e1 : yp_VT H f (yp_N s ||| yp_b1 c) = yp_sm (fun k => if k = c then H (f * 7 + c) else yp_bt (yp_N s) k * H (f * 7 + k)) 7 := yp_sm_congr (fun k hk => by
    show yp_bt (yp_N s ||| yp_b1 c) k * H (f * 7 + k) = _
    rw [yp_btOr s c k hs hc hk]
    by_cases e : k = c
    · simp only [e, if_true]; exact Int32.one_mul _
    · simp only [e, if_false])
  rw [e1, yp_sm_one (v := fun k => yp_bt (yp_N s) k * H (f * 7 + k)) (c := c) (d := H (f * 7 + c)) (fun k hk => by simp only [hk, if_false]) (by
    simp only [if_true, hb]
    have : yp_N 0 * H (f * 7 + c) = yp_N 0 := Int32.zero_mul
    rw [this]
    exact (Int32.zero_add _).symm) 7, if_pos hc]
  rfl
set_option maxHeartbeats 1000000 in
theorem yp_m_swing {m : Mem} {H : Nat → Int32} (hH : yp_HM m (B + 532) H) (f c q s : Nat) (hf : f < 6) (hc : c < 7) (hs : s < 128) : fX12_isSwing (yp_SH B) (B + 517) (yp_N f) (yp_N s) (yp_N c) (yp_N q) m = some (yp_swV H f c q s) := by
  have hM := yp_mS B
  unfold yp_swV
  rcases yp_bt01 (yp_N s) c with hb | hb
  · rw [if_pos hb]
    have e1 := yp_m_votes hH f hf (yp_N s)
    have e2 := yp_m_votes hH f hf (yp_N s ||| yp_b1 c)
    rw [yp_VT_or H f c s hs hc hb] at e2
    unfold yp_b1 at e2
    unfold yp_bt at hb
    simp (disch := omega) only [fX12_isSwing_j39, fX12_isSwing_j38, fX12_isSwing, hM, hb, e1, e2, yp_ck0, yp_ck1, Nat.reduceAdd, Nat.reduceMul, Nat.reduceSub, Nat.zero_add, Nat.add_zero, yp_LT, yp_nA, yp_nM, yp_ltF, yp_ltT, yp_leF, yp_leT, yp_eqF, eq_self, yp_eqM, lt1, yp_sbN, yp_sb2N, ↓reduceIte, ↓yp_iP11, ↓yp_iP12, ↓yp_m0P]
    split
    · rfl
    · split <;> rfl
  · rw [if_neg (by rw [hb]; decide)]
    have hb2 : ((yp_N s >>> (yp_N c &&& yp_N 31)) &&& yp_N 1 = yp_N 0) = False := by unfold yp_bt at hb; rw [hb]; exact eq_false (by decide)
    simp (disch := omega) only [fX12_isSwing_j39, fX12_isSwing_j38, fX12_isSwing, hb2, yp_ck0, Nat.reduceAdd, Nat.reduceMul, Nat.reduceSub, Nat.zero_add, Nat.add_zero, yp_LT, yp_nA, yp_nM, yp_ltF, yp_ltT, yp_leF, yp_leT, yp_eqF, eq_self, yp_eqM, lt1, yp_sbN, yp_sb2N, ↓reduceIte, ↓yp_iP11, ↓yp_iP12, ↓yp_m0P]
set_option maxHeartbeats 1000000 in
theorem yp_quR (x : Int32) : (∃ q, 1 ≤ q ∧ q ≤ 2800 ∧ x = yp_N q ∧ fX11_isQuota (yp_N q) = some (yp_N 1) ∧ fX12_within (yp_N q) (yp_N 1) (yp_N 2800) = some (yp_N 1)) ∨ (fX11_isQuota x = some (yp_N 0) ∧ fX12_within x (yp_N 1) (yp_N 2800) = some (yp_N 0)) := by
  rcases yp_rngG x 1 2800 (by omega) (by omega) with ⟨k, h1, h2, rfl⟩ | h | h
  · exact .inl ⟨k, h1, h2, rfl, by simp (disch := omega) only [fX11_isQuota_j17, fX11_isQuota_j16, fX11_isQuota, yp_ck1, Nat.reduceAdd, Nat.reduceMul, Nat.reduceSub, Nat.zero_add, Nat.add_zero, yp_LT, yp_nA, yp_nM, yp_ltF, yp_ltT, yp_leF, yp_leT, yp_eqF, eq_self, yp_eqM, lt1, yp_sbN, yp_sb2N, ↓reduceIte, ↓yp_iP11, ↓yp_iP12, ↓yp_m0P], by simp (disch := omega) only [yp_m_wiG, Nat.reduceAdd, Nat.reduceMul, Nat.reduceSub, Nat.zero_add, Nat.add_zero, yp_LT, yp_nA, yp_nM, yp_ltF, yp_ltT, yp_leF, yp_leT, yp_eqF, eq_self, yp_eqM, lt1, yp_sbN, yp_sb2N, ↓reduceIte, ↓yp_iP11, ↓yp_iP12, ↓yp_m0P]⟩
  · exact .inr ⟨by simp (disch := omega) only [fX11_isQuota_j17, fX11_isQuota_j16, fX11_isQuota, yp_ck0, h, Nat.reduceAdd, Nat.reduceMul, Nat.reduceSub, Nat.zero_add, Nat.add_zero, yp_LT, yp_nA, yp_nM, yp_ltF, yp_ltT, yp_leF, yp_leT, yp_eqF, eq_self, yp_eqM, lt1, yp_sbN, yp_sb2N, ↓reduceIte, ↓yp_iP11, ↓yp_iP12, ↓yp_m0P], by simp (disch := omega) only [yp_m_wiG, h, Nat.reduceAdd, Nat.reduceMul, Nat.reduceSub, Nat.zero_add, Nat.add_zero, yp_LT, yp_nA, yp_nM, yp_ltF, yp_ltT, yp_leF, yp_leT, yp_eqF, eq_self, yp_eqM, lt1, yp_sbN, yp_sb2N, ↓reduceIte, ↓yp_iP11, ↓yp_iP12, ↓yp_m0P]⟩
  · exact .inr ⟨by simp (disch := omega) only [fX11_isQuota_j17, fX11_isQuota_j16, fX11_isQuota, yp_ck0, h, Nat.reduceAdd, Nat.reduceMul, Nat.reduceSub, Nat.zero_add, Nat.add_zero, yp_LT, yp_nA, yp_nM, yp_ltF, yp_ltT, yp_leF, yp_leT, yp_eqF, eq_self, yp_eqM, lt1, yp_sbN, yp_sb2N, ↓reduceIte, ↓yp_iP11, ↓yp_iP12, ↓yp_m0P], by simp (disch := omega) only [yp_m_wiG, h, Nat.reduceAdd, Nat.reduceMul, Nat.reduceSub, Nat.zero_add, Nat.add_zero, yp_LT, yp_nA, yp_nM, yp_ltF, yp_ltT, yp_leF, yp_leT, yp_eqF, eq_self, yp_eqM, lt1, yp_sbN, yp_sb2N, ↓reduceIte, ↓yp_iP11, ↓yp_iP12, ↓yp_m0P]⟩
set_option maxHeartbeats 1000000 in
theorem yp_p_swings (hR : yp_RCc B mm A) (hI : yp_INV A) (x y z : Int32) : yp_PM B (fX11_swings (yp_SH B) B x y z mm) (fun m => fX12_swings (yp_SH B) (B + 517) x y z m) hcB mm A := by
  have hA := yp_clsS B
  have hM := yp_mS B
  have hn := @yp_nd1 B mm
  have h0 := @yp_nd0 B mm A hR
  have hq := hI.1.1
  rcases yp_c_needF hR hI x with ⟨f, hf, rfl, hc⟩ | ⟨hb, hc⟩
  rotate_left
  · exact yp_PM_e0 hR hI (by simp (disch := omega) only [fX11_swings_j70, fX11_swings_j61, fX11_swings_j25, fX11_swings_j24, fX11_swings, hA, ↓yp_bdP hc, ↓yp_smL, ↓yp_smR, Nat.reduceAdd, Nat.reduceMul, Nat.reduceSub, Nat.zero_add, Nat.add_zero, yp_LT, yp_nA, yp_nM, yp_ltF, yp_ltT, yp_leF, yp_leT, yp_eqF, eq_self, yp_eqM, lt1, yp_sbN, yp_sb2N, ↓reduceIte, ↓yp_iP11, ↓yp_iP12, ↓yp_m0P]) (fun m hm => by simp (disch := omega) only [fX12_swings_j46, fX12_swings_j90, fX12_swings_j81, fX12_swings_j38, fX12_swings_j37, fX12_swings, hM, yp_m0e, yp_m_isF0 hm hI hb, Nat.reduceAdd, Nat.reduceMul, Nat.reduceSub, Nat.zero_add, Nat.add_zero, yp_LT, yp_nA, yp_nM, yp_ltF, yp_ltT, yp_leF, yp_leT, yp_eqF, eq_self, yp_eqM, lt1, yp_sbN, yp_sb2N, ↓reduceIte, ↓yp_iP11, ↓yp_iP12, ↓yp_m0P]) rfl
  have hf6 : f < 6 := by omega
  rcases yp_partR y with ⟨c, hcc, rfl, q1, q2⟩ | ⟨q1, q2⟩
  rotate_left
  · exact yp_PM_e1 hR hI (by simp (disch := omega) only [fX11_swings_j70, fX11_swings_j61, fX11_swings_j25, fX11_swings_j24, fX11_swings, hA, ↓yp_bdP hc, ↓h0, ↓yp_opP q1, ↓yp_smL, ↓yp_smR, Nat.reduceAdd, Nat.reduceMul, Nat.reduceSub, Nat.zero_add, Nat.add_zero, yp_LT, yp_nA, yp_nM, yp_ltF, yp_ltT, yp_leF, yp_leT, yp_eqF, eq_self, yp_eqM, lt1, yp_sbN, yp_sb2N, ↓reduceIte, ↓yp_iP11, ↓yp_iP12, ↓yp_m0P]) (fun m hm => by simp (disch := omega) only [fX12_swings_j46, fX12_swings_j90, fX12_swings_j81, fX12_swings_j38, fX12_swings_j37, fX12_swings, hM, yp_m0e, yp_m_isF1 hm hI hf, ↓yp_opP q2, yp_may21, Nat.reduceAdd, Nat.reduceMul, Nat.reduceSub, Nat.zero_add, Nat.add_zero, yp_LT, yp_nA, yp_nM, yp_ltF, yp_ltT, yp_leF, yp_leT, yp_eqF, eq_self, yp_eqM, lt1, yp_sbN, yp_sb2N, ↓reduceIte, ↓yp_iP11, ↓yp_iP12, ↓yp_m0P]) rfl yp_n2
  rcases yp_quR z with ⟨q, _, _, rfl, q3, q4⟩ | ⟨q3, q4⟩
  rotate_left
  · exact yp_PM_e1 hR hI (by simp (disch := omega) only [fX11_swings_j70, fX11_swings_j61, fX11_swings_j25, fX11_swings_j24, fX11_swings, hA, ↓yp_bdP hc, ↓h0, ↓yp_opP q1, ↓yp_opP q3, ↓yp_smL, ↓yp_smR, Nat.reduceAdd, Nat.reduceMul, Nat.reduceSub, Nat.zero_add, Nat.add_zero, yp_LT, yp_nA, yp_nM, yp_ltF, yp_ltT, yp_leF, yp_leT, yp_eqF, eq_self, yp_eqM, lt1, yp_sbN, yp_sb2N, ↓reduceIte, ↓yp_iP11, ↓yp_iP12, ↓yp_m0P]) (fun m hm => by simp (disch := omega) only [fX12_swings_j46, fX12_swings_j90, fX12_swings_j81, fX12_swings_j38, fX12_swings_j37, fX12_swings, hM, yp_m0e, yp_m_isF1 hm hI hf, ↓yp_opP q2, ↓yp_opP q4, yp_may21, Nat.reduceAdd, Nat.reduceMul, Nat.reduceSub, Nat.zero_add, Nat.add_zero, yp_LT, yp_nA, yp_nM, yp_ltF, yp_ltT, yp_leF, yp_leT, yp_eqF, eq_self, yp_eqM, lt1, yp_sbN, yp_sb2N, ↓reduceIte, ↓yp_iP11, ↓yp_iP12, ↓yp_m0P]) rfl yp_n2
  have L1 : loopN (fun st : Int32 × Int32 => fX11_swings_b34 (yp_SH B) B (yp_N f) (yp_N c) (yp_N q) st.1 st.2 mm) FU (yp_N 0, yp_N 0) = some (yp_fo (fun s a => a + (if yp_swV (yp_sH A) f c q s = yp_N 0 then yp_N 0 else yp_N 1)) 128 (yp_N 0)) := by
    refine yp_lpF (fun k a => (a, yp_N k)) (fun s a => a + (if yp_swV (yp_sH A) f c q s = yp_N 0 then yp_N 0 else yp_N 1)) id 128 (yp_N 0) (fun k z hk hz => ?_) (fun z hz => ?_) (by rw [yp_FUe]; omega) rfl
    · simp (disch := omega) only [fX11_swings_b34, fX11_swings_j61, hA, yp_c_swing hR f c q k hf6 hcc, Nat.reduceAdd, Nat.reduceMul, Nat.reduceSub, Nat.zero_add, Nat.add_zero, yp_LT, yp_nA, yp_nM, yp_ltF, yp_ltT, yp_leF, yp_leT, yp_eqF, eq_self, yp_eqM, lt1, yp_sbN, yp_sb2N, ↓reduceIte, ↓yp_iP11, ↓yp_iP12, ↓yp_m0P]
      all_goals ((repeat' split) <;> first | rfl | (simp_all [id]; done) | (simp_all [id, Nat.add_assoc]; done) | (simp_all [id] <;> rfl))
    · simp (disch := omega) only [fX11_swings_b34, Nat.reduceAdd, Nat.reduceMul, Nat.reduceSub, Nat.zero_add, Nat.add_zero, yp_LT, yp_nA, yp_nM, yp_ltF, yp_ltT, yp_leF, yp_leT, yp_eqF, eq_self, yp_eqM, lt1, yp_sbN, yp_sb2N, ↓reduceIte, ↓yp_iP11, ↓yp_iP12, ↓yp_m0P]
      rfl
  refine yp_PM_st hR hI (v := yp_fo (fun s a => a + (if yp_swV (yp_sH A) f c q s = yp_N 0 then yp_N 0 else yp_N 1)) 128 (yp_N 0)) ?_ (fun m hm hm0 => ?_)
  · simp (disch := omega) only [fX11_swings_j70, fX11_swings_j61, fX11_swings_j25, fX11_swings_j24, fX11_swings, hA, ↓yp_bdP hc, ↓hn, ↓yp_opP q1, ↓yp_opP q3, ↓yp_smL, ↓yp_smR, L1, Nat.reduceAdd, Nat.reduceMul, Nat.reduceSub, Nat.zero_add, Nat.add_zero, yp_LT, yp_nA, yp_nM, yp_ltF, yp_ltT, yp_leF, yp_leT, yp_eqF, eq_self, yp_eqM, lt1, yp_sbN, yp_sb2N, ↓reduceIte, ↓yp_iP11, ↓yp_iP12, ↓yp_m0P]
  · have L2 : loopN (fun st : Int32 × Int32 => fX12_swings_b54 (yp_SH B) (B + 517) (yp_N f) (yp_N c) (yp_N q) st.1 st.2 (yp_m0 B m)) FU (yp_N 0, yp_N 0) = some (yp_fo (fun s a => a + (if yp_swV (yp_sH A) f c q s = yp_N 0 then yp_N 0 else yp_N 1)) 128 (yp_N 0)) := by
      refine yp_lpF (fun k a => (a, yp_N k)) (fun s a => a + (if yp_swV (yp_sH A) f c q s = yp_N 0 then yp_N 0 else yp_N 1)) id 128 (yp_N 0) (fun k z hk hz => ?_) (fun z hz => ?_) (by rw [yp_FUe]; omega) rfl
      · simp (disch := omega) only [fX12_swings_b54, fX12_swings_j81, hM, yp_m_swing hm0.2.1 f c q k hf6 hcc hk, Nat.reduceAdd, Nat.reduceMul, Nat.reduceSub, Nat.zero_add, Nat.add_zero, yp_LT, yp_nA, yp_nM, yp_ltF, yp_ltT, yp_leF, yp_leT, yp_eqF, eq_self, yp_eqM, lt1, yp_sbN, yp_sb2N, ↓reduceIte, ↓yp_iP11, ↓yp_iP12, ↓yp_m0P]
        all_goals ((repeat' split) <;> first | rfl | (simp_all [id]; done) | (simp_all [id, Nat.add_assoc]; done) | (simp_all [id] <;> rfl))
      · simp (disch := omega) only [fX12_swings_b54, Nat.reduceAdd, Nat.reduceMul, Nat.reduceSub, Nat.zero_add, Nat.add_zero, yp_LT, yp_nA, yp_nM, yp_ltF, yp_ltT, yp_leF, yp_leT, yp_eqF, eq_self, yp_eqM, lt1, yp_sbN, yp_sb2N, ↓reduceIte, ↓yp_iP11, ↓yp_iP12, ↓yp_m0P]
        rfl
    simp (disch := omega) only [fX12_swings_j46, fX12_swings_j90, fX12_swings_j81, fX12_swings_j38, fX12_swings_j37, fX12_swings, hM, yp_m0e, yp_m_isF1 hm hI hf, ↓yp_opP q2, ↓yp_opP q4, yp_mayG, L2, Nat.reduceAdd, Nat.reduceMul, Nat.reduceSub, Nat.zero_add, Nat.add_zero, yp_LT, yp_nA, yp_nM, yp_ltF, yp_ltT, yp_leF, yp_leT, yp_eqF, eq_self, yp_eqM, lt1, yp_sbN, yp_sb2N, ↓reduceIte, ↓yp_iP11, ↓yp_iP12, ↓yp_m0P]
end ASK6

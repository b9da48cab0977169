section STEPS
variable {B : Nat} {t : Nat → Nat} {n nf ng : Nat}
set_option maxHeartbeats 1000000 in
theorem yp_iP10 {γ : Type} (B : Nat) (F : Unit → Option γ) : (isO (yp_SH B) 10 (B + 27)).bind F = F () := yp_opP (yp_wspS B).2.1 F
set_option maxHeartbeats 1000000 in
theorem yp_cst_0 {Sc : Nat → Int32 → Mem → Option (Int32 × Mem)} {o : Nat} {m m1 : Mem} (h : yp_cst B Sc o m = some (yp_N 0, m1)) : fX10_readStep_o (yp_SH B) Sc (B + 27) (yp_N o) m = some (yp_N 0, m1) ∨ ∃ v m3, fX10_readStep_o (yp_SH B) Sc (B + 27) (yp_N o) m = some (v, m3) ∧ ¬ v = yp_N 0 ∧ fX8_wants (yp_SH B) (B + 1) (yp_N 59) m3 = some (yp_N 0, m1) := by
  unfold yp_cst at h
  cases hr : fX10_readStep_o (yp_SH B) Sc (B + 27) (yp_N o) m with
  | none => rw [hr] at h; cases h
  | some p =>
    obtain ⟨v, m3⟩ := p
    rw [hr] at h
    have h : (if v = yp_N 0 then some (yp_N 0, m3) else fX8_wants (yp_SH B) (B + 1) (yp_N 59) m3) = some (yp_N 0, m1) := h
    by_cases e : v = yp_N 0
    · rw [if_pos e] at h
      have : m3 = m1 := congrArg Prod.snd (Option.some.inj h)
      rw [e, this]
      exact .inl rfl
    · rw [if_neg e] at h
      exact .inr ⟨v, m3, rfl, e, h⟩
set_option maxHeartbeats 1000000 in
theorem yp_cst_1 {Sc : Nat → Int32 → Mem → Option (Int32 × Mem)} {o : Nat} {m m1 : Mem} (h : yp_cst B Sc o m = some (yp_N 1, m1)) : ∃ v m3, fX10_readStep_o (yp_SH B) Sc (B + 27) (yp_N o) m = some (v, m3) ∧ ¬ v = yp_N 0 ∧ fX8_wants (yp_SH B) (B + 1) (yp_N 59) m3 = some (yp_N 1, m1) := by
  unfold yp_cst at h
  cases hr : fX10_readStep_o (yp_SH B) Sc (B + 27) (yp_N o) m with
  | none => rw [hr] at h; cases h
  | some p =>
    obtain ⟨v, m3⟩ := p
    rw [hr] at h
    have h : (if v = yp_N 0 then some (yp_N 0, m3) else fX8_wants (yp_SH B) (B + 1) (yp_N 59) m3) = some (yp_N 1, m1) := h
    by_cases e : v = yp_N 0
    · rw [if_pos e] at h
      have : yp_N 0 = yp_N 1 := congrArg Prod.fst (Option.some.inj h)
      exact absurd this (by decide)
    · rw [if_neg e] at h
      exact ⟨v, m3, rfl, e, h⟩
set_option maxHeartbeats 1000000 in
theorem yp_K_steps {o : Nat} {step : yp_WkT → Option yp_WkR} {Sc : Nat → Int32 → Mem → Option (Int32 × Mem)} {fm : Mem → Option Mem} {ms : Mem → Option (Mem ⊕ Mem)} (hn : n ≤ 150) (ho : o ≤ 6) (hU : yp_KSt B t n nf ng o step (yp_cst B Sc o) fm)
    (hm0 : ∀ m, ¬ m (B + 517) 5 = -yp_N 1 → ms m = some (.inr m))
    (hm1 : ∀ m z, yp_WM B m t n nf ng z o → yp_stp t n o z.1 = 0 → ms m = some (.inr (yp_rAt B m (yp_sk t n z.1))))
    (hm2 : ∀ m z, yp_WM B m t n nf ng z o → ¬ yp_stp t n o z.1 = 0 → ∀ m1, fm (yp_rAt B m (yp_sk t n z.1)) = some m1 → ms m = some (.inl m1)) : yp_KSs B t n nf ng o (fun z => loopN (yp_stW t n o step) FU z) (fun m => fX10_readSteps_o (yp_SH B) Sc (B + 27) (yp_N o) m) (fun m => loopN ms FU m) := by
  intro z h1 h4
  have hS := yp_wspS B
  have hT := yp_tapS B
  obtain ⟨y, yp_b1, b2, b3⟩ := yp_st_pure (t := t) (nf := nf) (ng := ng) (o := o) (step := step) hn (fun z h1 h2 => by
    obtain ⟨r, a1, a2, a3, _⟩ := hU z h1 h2
    exact ⟨r, a1, a2, a3⟩) z h1 h4
  refine ⟨y, yp_b1, b2, b3, fun m hm => ?_, fun m hm => ?_⟩
  · obtain ⟨x, y', g1, g2, g3⟩ := yp_st_c (B := B) (t := t) (nf := nf) (ng := ng) (o := o) (step := step) (fc := yp_cst B Sc o) (cs := fun st : Int32 × Mem => fX10_readSteps_b2 (yp_SH B) Sc (B + 27) (yp_N o) st.1 st.2) hn (fun z h1 h2 => by
      obtain ⟨r, a1, a2, a3, a4, _⟩ := hU z h1 h2
      exact ⟨r, a1, a2, a3, a4⟩) (fun i m z hi hw hs => by
      unfold yp_stp at hs
      by_cases o0 : o = 0
      · subst o0
        rw [if_pos rfl] at hs
        have e1 := yp_c_ended hw.1
        by_cases k : yp_sk t n z.1 < n
        · rw [if_pos k] at hs
          exact absurd hs (by decide)
        · rw [if_neg k] at e1
          refine ⟨.inl (yp_cAt B m (yp_sk t n z.1)), ?_, .inl rfl⟩
          simp (disch := omega) only [↓yp_lt1N, fX10_readSteps_b2, ↓yp_opP hS.1.1, ↓yp_iP8, ↓yp_bdP e1, Nat.reduceAdd, Nat.reduceMul, Nat.reduceSub, Nat.zero_add, Nat.add_zero, yp_LT, yp_nA, yp_nM, yp_ltF, yp_ltT, yp_leF, yp_leT, yp_eqF, eq_self, yp_eqM, yp_lt1N, yp_sbN, yp_sb2N, ↓reduceIte, ↓yp_iP11, ↓yp_iP12, ↓yp_m0P]
      · rw [if_neg o0] at hs
        have e1 := yp_c_sees hw.1 93 (by omega)
        rw [if_pos (yp_sgk0 hs)] at e1
        have e1' : fX8_sees (yp_SH B) (B + 1) 93 m = some (yp_N 1, yp_cAt B m (yp_sk t n z.1)) := e1
        refine ⟨.inr (.inl (yp_cAt B m (yp_sk t n z.1))), ?_, .inr rfl⟩
        simp (disch := omega) only [↓yp_lt1N, fX10_readSteps_b2, ↓yp_opP hS.1.1, ↓yp_iP8, ↓yp_bdP e1', e1, Nat.reduceAdd, Nat.reduceMul, Nat.reduceSub, Nat.zero_add, Nat.add_zero, yp_LT, yp_nA, yp_nM, yp_ltF, yp_ltT, yp_leF, yp_leT, yp_eqF, eq_self, yp_eqM, yp_lt1N, yp_sbN, yp_sb2N, ↓reduceIte, ↓yp_iP11, ↓yp_iP12, ↓yp_m0P]) (fun i m z hi hw hs m1 => by
      have pre : ∀ x, fX10_readSteps_j40 (yp_SH B) Sc (B + 27) (yp_N o) (yp_N i) (yp_cAt B m (yp_sk t n z.1)) = some x → fX10_readSteps_b2 (yp_SH B) Sc (B + 27) (yp_N o) (yp_N i) m = some x := fun x hx => by
        unfold yp_stp at hs
        by_cases o0 : o = 0
        · subst o0
          rw [if_pos rfl] at hs
          have e1 := yp_c_ended hw.1
          by_cases k : yp_sk t n z.1 < n
          · rw [if_pos k] at e1
            simp (disch := omega) only [↓yp_lt1N, fX10_readSteps_b2, ↓yp_opP hS.1.1, ↓yp_iP8, ↓yp_bdP e1, hx, Nat.reduceAdd, Nat.reduceMul, Nat.reduceSub, Nat.zero_add, Nat.add_zero, yp_LT, yp_nA, yp_nM, yp_ltF, yp_ltT, yp_leF, yp_leT, yp_eqF, eq_self, yp_eqM, yp_lt1N, yp_sbN, yp_sb2N, ↓reduceIte, ↓yp_iP11, ↓yp_iP12, ↓yp_m0P]
          · rw [if_neg k] at hs
            exact absurd rfl hs
        · rw [if_neg o0] at hs
          have e1 := yp_c_sees hw.1 93 (by omega)
          rw [if_neg (yp_sgk1 hs).1] at e1
          have e1' : fX8_sees (yp_SH B) (B + 1) 93 m = some (yp_N 0, yp_cAt B m (yp_sk t n z.1)) := e1
          simp (disch := omega) only [↓yp_lt1N, fX10_readSteps_b2, ↓yp_opP hS.1.1, ↓yp_iP8, ↓yp_bdP e1', e1, hx, Nat.reduceAdd, Nat.reduceMul, Nat.reduceSub, Nat.zero_add, Nat.add_zero, yp_LT, yp_nA, yp_nM, yp_ltF, yp_ltT, yp_leF, yp_leT, yp_eqF, eq_self, yp_eqM, yp_lt1N, yp_sbN, yp_sb2N, ↓reduceIte, ↓yp_iP11, ↓yp_iP12, ↓yp_m0P]
      refine ⟨fun h => ?_, fun h => ?_⟩
      · refine pre _ ?_
        rcases yp_cst_0 h with h | ⟨v, m3, h, hv, h2⟩
        · simp (disch := omega) only [↓yp_lt1N, fX10_readSteps_j40, ↓yp_iP10, ↓yp_bdP h, Nat.reduceAdd, Nat.reduceMul, Nat.reduceSub, Nat.zero_add, Nat.add_zero, yp_LT, yp_nA, yp_nM, yp_ltF, yp_ltT, yp_leF, yp_leT, yp_eqF, eq_self, yp_eqM, yp_lt1N, yp_sbN, yp_sb2N, ↓reduceIte, ↓yp_iP11, ↓yp_iP12, ↓yp_m0P]
        · have h2' : fX8_wants (yp_SH B) (B + 1) 59 m3 = some (yp_N 0, m1) := h2
          simp (disch := omega) only [↓yp_lt1N, fX10_readSteps_j40, ↓yp_iP10, ↓yp_bdP h, hv, ↓yp_opP hS.1.1, hS, ↓yp_iP8, ↓yp_bdP h2', h2, Nat.reduceAdd, Nat.reduceMul, Nat.reduceSub, Nat.zero_add, Nat.add_zero, yp_LT, yp_nA, yp_nM, yp_ltF, yp_ltT, yp_leF, yp_leT, yp_eqF, eq_self, yp_eqM, yp_lt1N, yp_sbN, yp_sb2N, ↓reduceIte, ↓yp_iP11, ↓yp_iP12, ↓yp_m0P]
      · refine pre _ ?_
        obtain ⟨v, m3, h, hv, h2⟩ := yp_cst_1 h
        have h2' : fX8_wants (yp_SH B) (B + 1) 59 m3 = some (yp_N 1, m1) := h2
        simp (disch := omega) only [↓yp_lt1N, fX10_readSteps_j40, ↓yp_iP10, ↓yp_bdP h, hv, ↓yp_opP hS.1.1, hS, ↓yp_iP8, ↓yp_bdP h2', h2, Nat.reduceAdd, Nat.reduceMul, Nat.reduceSub, Nat.zero_add, Nat.add_zero, yp_LT, yp_nA, yp_nM, yp_ltF, yp_ltT, yp_leF, yp_leT, yp_eqF, eq_self, yp_eqM, yp_lt1N, yp_sbN, yp_sb2N, ↓reduceIte, ↓yp_iP11, ↓yp_iP12, ↓yp_m0P]) z m hm
    rw [yp_b1] at g2
    obtain rfl : y = y' := Option.some.inj g2
    rcases g3 with ⟨k, m', hx, g5, g6, g7⟩ | ⟨k, m', rfl, g5, g6⟩
    · refine ⟨m', ?_, g6, by rw [g5.2.1, yp_FLk_0 k], fun _ => ⟨g5, g7⟩⟩
      rw [if_pos k]
      rcases hx with rfl | rfl
      · simp (disch := omega) only [↓yp_lt1N, fX10_readSteps_o, fX10_readSteps_j23, fX10_readSteps_j38, g1, Sum.elim, Nat.reduceAdd, Nat.reduceMul, Nat.reduceSub, Nat.zero_add, Nat.add_zero, yp_LT, yp_nA, yp_nM, yp_ltF, yp_ltT, yp_leF, yp_leT, yp_eqF, eq_self, yp_eqM, yp_lt1N, yp_sbN, yp_sb2N, ↓reduceIte, ↓yp_iP11, ↓yp_iP12, ↓yp_m0P]
      · simp (disch := omega) only [↓yp_lt1N, fX10_readSteps_o, fX10_readSteps_j23, fX10_readSteps_j38, g1, Sum.elim, Nat.reduceAdd, Nat.reduceMul, Nat.reduceSub, Nat.zero_add, Nat.add_zero, yp_LT, yp_nA, yp_nM, yp_ltF, yp_ltT, yp_leF, yp_leT, yp_eqF, eq_self, yp_eqM, yp_lt1N, yp_sbN, yp_sb2N, ↓reduceIte, ↓yp_iP11, ↓yp_iP12, ↓yp_m0P]
    · refine ⟨m', ?_, g6, g5, fun q => absurd q k⟩
      rw [if_neg k]
      simp (disch := omega) only [↓yp_lt1N, fX10_readSteps_o, fX10_readSteps_j60, g1, Sum.elim, Nat.reduceAdd, Nat.reduceMul, Nat.reduceSub, Nat.zero_add, Nat.add_zero, yp_LT, yp_nA, yp_nM, yp_ltF, yp_ltT, yp_leF, yp_leT, yp_eqF, eq_self, yp_eqM, yp_lt1N, yp_sbN, yp_sb2N, ↓reduceIte, ↓yp_iP11, ↓yp_iP12, ↓yp_m0P]
  · obtain ⟨x, y', g1, g2, g3, g4, g5⟩ := yp_st_m (B := B) (t := t) (nf := nf) (ng := ng) (o := o) (step := step) (fm := fm) (ms := ms) hn (fun z h1 h2 => by
      obtain ⟨r, a1, a2, a3, _, a5⟩ := hU z h1 h2
      exact ⟨r, a1, a2, a3, a5⟩) hm0 hm1 hm2 z m hm
    rw [yp_b1] at g2
    obtain rfl : y = y' := Option.some.inj g2
    exact ⟨x, g1, g4, g3, g5⟩
def yp_stepsR (t : Nat → Nat) (n nf ng : Nat) : Nat → Nat → yp_WkT → Option yp_WkR
  | 0, o => fun z => loopN (yp_stW t n o (yp_stepW t n nf ng o 0 (fun _ => none))) FU z
  | d + 1, o => fun z => loopN (yp_stW t n o (yp_stepW t n nf ng o (d + 1) (yp_stepsR t n nf ng d (o + 1)))) FU z
set_option maxHeartbeats 1000000 in
theorem yp_b33_0 {Sm : Nat → Mem → Option Mem} {x : Int32} {m : Mem} (h : ¬ m (B + 517) 5 = -yp_N 1) : fX12_readAgain_b33 (yp_SH B) Sm (B + 517) x m = some (.inr m) := by
  have f0 := yp_m_fine0 h
  simp (disch := omega) only [fX12_readAgain_b33, ↓yp_opP f0, Nat.reduceAdd, Nat.reduceMul, Nat.reduceSub, Nat.zero_add, Nat.add_zero, yp_LT, yp_nA, yp_nM, yp_ltF, yp_ltT, yp_leF, yp_leT, yp_eqF, eq_self, yp_eqM, yp_lt1N, yp_sbN, yp_sb2N, ↓reduceIte, ↓yp_iP11, ↓yp_iP12, ↓yp_m0P]
set_option maxHeartbeats 1000000 in
theorem yp_hrW {m : Mem} {z : yp_WkT} {o : Nat} (h : yp_WM B m t n nf ng z o) : ∃ v, v < 256 ∧ (v = t (yp_sk t n z.1) ∧ yp_sk t n z.1 < n ∨ v = 0 ∧ ¬ yp_sk t n z.1 < n) ∧ fX12_here (yp_SH B) (B + 517) m = some (yp_N v, yp_rAt B m (yp_sk t n z.1)) := by
  have e1 := yp_m_here h.1
  by_cases e : yp_sk t n z.1 < n
  · rw [if_pos e] at e1
    exact ⟨_, h.1.2.2.2 _, .inl ⟨rfl, e⟩, e1⟩
  · rw [if_neg e] at e1
    exact ⟨0, by omega, .inr ⟨rfl, e⟩, e1⟩
set_option maxHeartbeats 1000000 in
theorem yp_K_rec1 {o : Nat} {step : yp_WkT → Option yp_WkR} {Sc : Nat → Int32 → Mem → Option (Int32 × Mem)} {Sm : Nat → Mem → Option Mem} (hn : n ≤ 150) (ho : o ≤ 6) (o0 : o ≠ 0) (x : Int32) (hU : yp_KSt B t n nf ng o step (yp_cst B Sc o) (fun m => Sm (B + 517) m)) : yp_KSs B t n nf ng o (fun z => loopN (yp_stW t n o step) FU z) (fun m => fX10_readSteps_o (yp_SH B) Sc (B + 27) (yp_N o) m) (fun m => loopN (fun st : Mem => fX12_readAgain_b33 (yp_SH B) Sm (B + 517) x st) FU m) := by
  refine yp_K_steps hn ho hU (fun m h => yp_b33_0 h) (fun m z h e => ?_) (fun m z h e m1 g => ?_)
  · have f0 := yp_m_fine1 h.2.1
    obtain ⟨v, v1, v2, v3⟩ := yp_hrW h
    unfold yp_stp at e
    rw [if_neg o0] at e
    have q := yp_sgk0 e
    have : v = 93 := by omega
    subst this
    simp (disch := omega) only [fX12_readAgain_b33, ↓yp_opP f0, ↓yp_bdP v3, Nat.reduceAdd, Nat.reduceMul, Nat.reduceSub, Nat.zero_add, Nat.add_zero, yp_LT, yp_nA, yp_nM, yp_ltF, yp_ltT, yp_leF, yp_leT, yp_eqF, eq_self, yp_eqM, yp_lt1N, yp_sbN, yp_sb2N, ↓reduceIte, ↓yp_iP11, ↓yp_iP12, ↓yp_m0P]
  · have f0 := yp_m_fine1 h.2.1
    obtain ⟨v, v1, v2, v3⟩ := yp_hrW h
    unfold yp_stp at e
    rw [if_neg o0] at e
    have q := (yp_sgk1 e).1
    have : v ≠ 93 := fun h93 => by
      rcases v2 with ⟨p1, p2⟩ | ⟨p1, p2⟩
      · exact q ⟨p2, by omega⟩
      · omega
    have g : Sm (B + 517) (yp_rAt B m (yp_sk t n z.1)) = some m1 := g
    simp (disch := omega) only [fX12_readAgain_b33, ↓yp_opP f0, ↓yp_bdP v3, g, Nat.reduceAdd, Nat.reduceMul, Nat.reduceSub, Nat.zero_add, Nat.add_zero, yp_LT, yp_nA, yp_nM, yp_ltF, yp_ltT, yp_leF, yp_leT, yp_eqF, eq_self, yp_eqM, yp_lt1N, yp_sbN, yp_sb2N, ↓reduceIte, ↓yp_iP11, ↓yp_iP12, ↓yp_m0P]
set_option maxHeartbeats 1000000 in
theorem yp_K_rec (hn : n ≤ 150) (hnf : nf ≤ 6) (hng : ng ≤ 8) : ∀ d o fu fv, o + d = 6 → o ≠ 0 → d < fu → d < fv → ∀ x, yp_KSs B t n nf ng o (yp_stepsR t n nf ng d o) (fun m => fX10_readSteps (yp_SH B) fu (B + 27) (yp_N o) m) (fun m => loopN (fun st : Mem => fX12_readAgain_b33 (yp_SH B) (fX12_readStep (yp_SH B) fv) (B + 517) x st) FU m) := by
  intro d
  induction d with
  | zero =>
    intro o fu fv h1 o0 h2 h3 x
    obtain ⟨fu, rfl⟩ : ∃ k, fu = k + 1 := ⟨fu - 1, by omega⟩
    obtain ⟨fv, rfl⟩ : ∃ k, fv = k + 1 := ⟨fv - 1, by omega⟩
    exact yp_K_rec1 (Sc := fX10_readSteps (yp_SH B) fu) (Sm := fX12_readStep (yp_SH B) (fv + 1)) hn (by omega) o0 x (yp_K_step (S := fun _ => none) (Sc := fX10_readSteps (yp_SH B) fu) (Sm := fX12_readStep (yp_SH B) fv) (d := 0) hn hnf hng h1 (fun q => absurd rfl q))
  | succ d ih =>
    intro o fu fv h1 o0 h2 h3 x
    obtain ⟨fu, rfl⟩ : ∃ k, fu = k + 1 := ⟨fu - 1, by omega⟩
    obtain ⟨fv, rfl⟩ : ∃ k, fv = k + 1 := ⟨fv - 1, by omega⟩
    exact yp_K_rec1 (Sc := fX10_readSteps (yp_SH B) fu) (Sm := fX12_readStep (yp_SH B) (fv + 1)) hn (by omega) o0 x (yp_K_step (S := yp_stepsR t n nf ng d (o + 1)) (Sc := fX10_readSteps (yp_SH B) fu) (Sm := fX12_readStep (yp_SH B) fv) (d := d + 1) hn hnf hng h1 (fun _ => ih (o + 1) fu fv (by omega) (by omega) (by omega) (by omega)))
set_option maxHeartbeats 1000000 in
theorem yp_K_top (hn : n ≤ 150) (hnf : nf ≤ 6) (hng : ng ≤ 8) : yp_KSs B t n nf ng 0 (yp_stepsR t n nf ng 6 0) (fun m => fX10_readSteps (yp_SH B) DP (B + 27) (yp_N 0) m) (fun m => loopN (fun st : Mem => fX12_work_b68 (yp_SH B) (B + 517) st) FU m) := by
  have hK : yp_KSt B t n nf ng 0 (yp_stepW t n nf ng 0 6 (yp_stepsR t n nf ng 5 1)) (yp_cst B (fX10_readSteps (yp_SH B) 9) 0) (fun m => fX12_readStep (yp_SH B) DP (B + 517) m) := yp_K_step (S := yp_stepsR t n nf ng 5 1) (Sc := fX10_readSteps (yp_SH B) 9) (Sm := fX12_readStep (yp_SH B) 9) (d := 6) hn hnf hng rfl (fun _ => yp_K_rec hn hnf hng 5 1 9 9 rfl (by decide) (by decide) (by decide))
  refine yp_K_steps (Sc := fX10_readSteps (yp_SH B) 9) (ms := fun st : Mem => fX12_work_b68 (yp_SH B) (B + 517) st) hn (by omega) hK (fun m h => ?_) (fun m z h e => ?_) (fun m z h e m1 g => ?_)
  · have f0 := yp_m_fine0 h
    simp (disch := omega) only [fX12_work_b68, ↓yp_opP f0, Nat.reduceAdd, Nat.reduceMul, Nat.reduceSub, Nat.zero_add, Nat.add_zero, yp_LT, yp_nA, yp_nM, yp_ltF, yp_ltT, yp_leF, yp_leT, yp_eqF, eq_self, yp_eqM, yp_lt1N, yp_sbN, yp_sb2N, ↓reduceIte, ↓yp_iP11, ↓yp_iP12, ↓yp_m0P]
  · have f0 := yp_m_fine1 h.2.1
    have e1 := yp_m_more h.1
    unfold yp_stp at e
    rw [if_pos rfl] at e
    by_cases k : yp_sk t n z.1 < n
    · rw [if_pos k] at e
      exact absurd e (by decide)
    · rw [if_neg k] at e1
      simp (disch := omega) only [fX12_work_b68, ↓yp_opP f0, ↓yp_bdP e1, Nat.reduceAdd, Nat.reduceMul, Nat.reduceSub, Nat.zero_add, Nat.add_zero, yp_LT, yp_nA, yp_nM, yp_ltF, yp_ltT, yp_leF, yp_leT, yp_eqF, eq_self, yp_eqM, yp_lt1N, yp_sbN, yp_sb2N, ↓reduceIte, ↓yp_iP11, ↓yp_iP12, ↓yp_m0P]
  · have f0 := yp_m_fine1 h.2.1
    have e1 := yp_m_more h.1
    unfold yp_stp at e
    rw [if_pos rfl] at e
    by_cases k : yp_sk t n z.1 < n
    · rw [if_pos k] at e1
      have g : fX12_readStep (yp_SH B) DP (B + 517) (yp_rAt B m (yp_sk t n z.1)) = some m1 := g
      simp (disch := omega) only [fX12_work_b68, ↓yp_opP f0, ↓yp_bdP e1, g, Nat.reduceAdd, Nat.reduceMul, Nat.reduceSub, Nat.zero_add, Nat.add_zero, yp_LT, yp_nA, yp_nM, yp_ltF, yp_ltT, yp_leF, yp_leT, yp_eqF, eq_self, yp_eqM, yp_lt1N, yp_sbN, yp_sb2N, ↓reduceIte, ↓yp_iP11, ↓yp_iP12, ↓yp_m0P]
    · rw [if_neg k] at e
      exact absurd rfl e
end STEPS

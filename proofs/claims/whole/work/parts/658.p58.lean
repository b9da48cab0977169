section PERF2
variable {B : Nat} {Q : yp_EnvT} {R : Nat → yp_Rw} {len : Nat} {mc mr : Mem}
set_option maxHeartbeats 1000000 in
theorem yp_CP_9 {m : Mem} {s : yp_PfS} (h : yp_CP B mc m s) : yp_CP B mc (up2 m (B + 27) 9 (yp_N (s.2.1 + 1))) (s.1, s.2.1 + 1, s.2.2) := by
  obtain ⟨h1, h2, h3, h4, h5⟩ := h
  exact ⟨h1.up (by unfold yp_TPc; omega), h2.same (fun a j q1 q2 => yp_up2_n _ _ (by omega)), yp_up2_s _ _ _ _, (yp_up2_n _ _ (by omega)).trans h4, (yp_up2_n _ _ (by omega)).trans h5⟩
set_option maxHeartbeats 1000000 in
theorem yp_MP_9 {m : Mem} {s : yp_PfS} (h : yp_MP B mr m s) : yp_MP B mr (up2 m (B + 517) 33 (yp_N (s.2.1 + 1))) (s.1, s.2.1 + 1, s.2.2) := by
  obtain ⟨h1, h2, h3, h4, h5⟩ := h
  exact ⟨h1.up (by unfold yp_TPm; omega), h2.same (fun j => yp_up2_n _ _ (by omega)), yp_up2_s _ _ _ _, (yp_up2_n _ _ (by omega)).trans h4, (yp_up2_n _ _ (by omega)).trans h5⟩
set_option maxHeartbeats 1000000 in
theorem yp_CP_n {m m' : Mem} {x : yp_Rw} {s : yp_PfS} (h : yp_CP B mc m (s.1, s.2.1 + 1, s.2.2)) (d2 : yp_HC m' (B + 33) (yp_dnV Q s.1 x).2) (d3 : yp_Fr (yp_TP B (B + 33)) m m') : ((yp_dnV Q s.1 x).1 = 0 → m' (B + 27) 11 = yp_N s.2.2.2 ∧ yp_CP B mc (up2 m' (B + 27) 11 (yp_N (s.2.2.2 + 1))) (yp_prN Q x s)) ∧ ((yp_dnV Q s.1 x).1 = 1 → m' (B + 27) 10 = yp_N s.2.2.1 ∧ yp_CP B mc (up2 m' (B + 27) 10 (yp_N (s.2.2.1 + 1))) (yp_prN Q x s)) := by
  obtain ⟨h1, h2, h3, h4, h5⟩ := h
  have f : yp_Fr (yp_TPc B) mc m' := h1.tr (d3.mono (fun a j q => by unfold yp_TP at q; unfold yp_TPc; omega))
  have g9 := (d3 (B + 27) 9 (by unfold yp_TP; omega)).trans h3
  have g10 := (d3 (B + 27) 10 (by unfold yp_TP; omega)).trans h4
  have g11 := (d3 (B + 27) 11 (by unfold yp_TP; omega)).trans h5
  refine ⟨fun v => ⟨g11, f.up (by unfold yp_TPc; omega), d2.same (fun a j q1 q2 => yp_up2_n _ _ (by omega)), (yp_up2_n _ _ (by omega)).trans g9, ?_, ?_⟩, fun v => ⟨g10, f.up (by unfold yp_TPc; omega), d2.same (fun a j q1 q2 => yp_up2_n _ _ (by omega)), (yp_up2_n _ _ (by omega)).trans g9, ?_, ?_⟩⟩
  · refine (yp_up2_n _ _ (by omega)).trans (g10.trans ?_)
    show yp_N s.2.2.1 = yp_N (s.2.2.1 + (yp_dnV Q s.1 x).1)
    rw [v, Nat.add_zero]
  · refine (yp_up2_s _ _ _ _).trans ?_
    show yp_N (s.2.2.2 + 1) = yp_N (s.2.2.2 + (1 - (yp_dnV Q s.1 x).1))
    rw [v]
  · refine (yp_up2_s _ _ _ _).trans ?_
    show yp_N (s.2.2.1 + 1) = yp_N (s.2.2.1 + (yp_dnV Q s.1 x).1)
    rw [v]
  · refine (yp_up2_n _ _ (by omega)).trans (g11.trans ?_)
    show yp_N s.2.2.2 = yp_N (s.2.2.2 + (1 - (yp_dnV Q s.1 x).1))
    rw [v]; rfl
set_option maxHeartbeats 1000000 in
theorem yp_MP_n {m m' : Mem} {x : yp_Rw} {s : yp_PfS} (h : yp_MP B mr m (s.1, s.2.1 + 1, s.2.2)) (d2 : yp_HM m' (B + 533) (yp_dnV Q s.1 x).2) (d3 : yp_Fr (yp_TQ B) m m') : ((yp_dnV Q s.1 x).1 = 0 → m' (B + 517) 35 = yp_N s.2.2.2 ∧ yp_MP B mr (up2 m' (B + 517) 35 (yp_N (s.2.2.2 + 1))) (yp_prN Q x s)) ∧ ((yp_dnV Q s.1 x).1 = 1 → m' (B + 517) 34 = yp_N s.2.2.1 ∧ yp_MP B mr (up2 m' (B + 517) 34 (yp_N (s.2.2.1 + 1))) (yp_prN Q x s)) := by
  obtain ⟨h1, h2, h3, h4, h5⟩ := h
  have f : yp_Fr (yp_TPm B) mr m' := h1.tr (d3.mono (fun a j q => by unfold yp_TQ at q; unfold yp_TPm; omega))
  have g9 := (d3 (B + 517) 33 (by unfold yp_TQ; omega)).trans h3
  have g10 := (d3 (B + 517) 34 (by unfold yp_TQ; omega)).trans h4
  have g11 := (d3 (B + 517) 35 (by unfold yp_TQ; omega)).trans h5
  refine ⟨fun v => ⟨g11, f.up (by unfold yp_TPm; omega), d2.same (fun j => yp_up2_n _ _ (by omega)), (yp_up2_n _ _ (by omega)).trans g9, ?_, ?_⟩, fun v => ⟨g10, f.up (by unfold yp_TPm; omega), d2.same (fun j => yp_up2_n _ _ (by omega)), (yp_up2_n _ _ (by omega)).trans g9, ?_, ?_⟩⟩
  · refine (yp_up2_n _ _ (by omega)).trans (g10.trans ?_)
    show yp_N s.2.2.1 = yp_N (s.2.2.1 + (yp_dnV Q s.1 x).1)
    rw [v, Nat.add_zero]
  · refine (yp_up2_s _ _ _ _).trans ?_
    show yp_N (s.2.2.2 + 1) = yp_N (s.2.2.2 + (1 - (yp_dnV Q s.1 x).1))
    rw [v]
  · refine (yp_up2_s _ _ _ _).trans ?_
    show yp_N (s.2.2.1 + 1) = yp_N (s.2.2.1 + (yp_dnV Q s.1 x).1)
    rw [v]
  · refine (yp_up2_n _ _ (by omega)).trans (g11.trans ?_)
    show yp_N s.2.2.2 = yp_N (s.2.2.2 + (1 - (yp_dnV Q s.1 x).1))
    rw [v]; rfl
set_option maxHeartbeats 1000000 in
theorem yp_out_all {o : Nat} {S : Nat → Nat → yp_PfS → Option yp_PfS} {Sc : Nat → Nat → Int32 → Int32 → Int32 → Mem → Option Mem} {Sm : Nat → Int32 → Int32 → Mem → Option Mem} (hB : yp_BAS B Q R len mc) (ho : o ≤ 6) (hS : o ≤ 5 → yp_KPf B Q R len mc (o + 1) S (fun a b m => Sc (B + 27) (B + 33) (yp_N a) (yp_N b) (yp_N (o + 1)) m) (fun a b m => Sm (B + 517) (yp_N (4 * a)) (yp_N (4 * b)) m)) : yp_KPf B Q R len mc o (fun a b s => loopN (yp_prB Q R S b) FU (a, s)) (fun a b m => fX10_perform_o (yp_SH B) Sc (B + 27) (B + 33) (yp_N a) (yp_N b) (yp_N o) m) (fun a b m => fX12_goesSteps_o (yp_SH B) Sm (B + 517) (yp_N (4 * a)) (yp_N (4 * b)) m) := by
  intro a b s0 ha2 hb hlev h0
  have hW := yp_wspS B
  have hL := yp_wspL B
  have hM := yp_mS B
  have hU := yp_wmS B
  have hB2 := hB
  obtain ⟨⟨hE, l40⟩, hR, ⟨hC, hrc⟩⟩ := hB
  have row : ∀ k, a ≤ k → k < b → (yp_smp (yp_qf Q) (yp_qg Q) (R k) ∧ ¬ (R k).1 = 6) ∨ ((R k).1 = 6 ∧ k + 1 ≤ (R k).2.2.2.2.1 ∧ (R k).2.2.2.2.1 ≤ len ∧ o ≤ 5) := fun k k1 k2 => by
    have ok := hR k (Nat.zero_le k) (by omega)
    by_cases h6 : (R k).1 = 6
    · refine .inr ⟨h6, ?_⟩
      rcases ok.2 with q | q | q | q | q
      · omega
      · omega
      · omega
      · omega
      · have := hlev k k1 k2
        exact ⟨q.2.2.1, q.2.2.2.1, by have := q.2.2.2.2.1; omega⟩
    · exact .inl ⟨yp_rw_smp ok h6, h6⟩
  have nI : ∀ s : yp_PfS, yp_PfI Q s → ¬ 200 ≤ s.2.1 → yp_PfI Q (s.1, s.2.1 + 1, s.2.2) := fun s h g => ⟨h.1, by show s.2.1 + 1 ≤ 200; omega⟩
  have pB1 : ∀ k s, b ≤ k → yp_prB Q R S b (k, s) = some (.inr s) := fun k s g => if_pos g
  have pB2 : ∀ k s, ¬ b ≤ k → 200 ≤ s.2.1 → yp_prB Q R S b (k, s) = some (.inr s) := fun k s g1 g2 => (if_neg g1).trans (if_pos g2)
  have pB3 : ∀ k (s : yp_PfS) s', ¬ b ≤ k → ¬ 200 ≤ s.2.1 → (R k).1 = 6 → loopN (yp_prI R S k) FU (0, (s.1, s.2.1 + 1, s.2.2)) = some s' → yp_prB Q R S b (k, s) = some (.inl ((R k).2.2.2.2.1, s')) := fun k s s' g1 g2 g3 g4 => by
    refine (if_neg g1).trans ((if_neg g2).trans ((if_pos g3).trans ?_))
    show (loopN (yp_prI R S k) FU (0, (s.1, s.2.1 + 1, s.2.2))).bind _ = _
    rw [g4]; rfl
  have pB4 : ∀ k (s : yp_PfS), ¬ b ≤ k → ¬ 200 ≤ s.2.1 → ¬ (R k).1 = 6 → yp_prB Q R S b (k, s) = some (.inl (k + 1, yp_prN Q (R k) s)) := fun k s g1 g2 g3 => (if_neg g1).trans ((if_neg g2).trans (if_neg g3))
  obtain ⟨s', yp_b1, b2⟩ := yp_lpP (ps := yp_prB Q R S b) (fun st => yp_PfI Q st.2 ∧ a ≤ st.1) (fun s => yp_PfI Q s) (fun st => b - st.1) (fun st hI => by
    obtain ⟨k, s⟩ := st
    obtain ⟨hI, ha⟩ := hI
    have hI : yp_PfI Q s := hI
    have ha : a ≤ k := ha
    by_cases g1 : b ≤ k
    · exact .inr ⟨s, pB1 k s g1, hI⟩
    · by_cases g2 : 200 ≤ s.2.1
      · exact .inr ⟨s, pB2 k s g1 g2, hI⟩
      · rcases row k ha (by omega) with ⟨r1, r2⟩ | ⟨r1, r2, r3, r4⟩
        · exact .inl ⟨_, pB4 k s g1 g2 r2, ⟨yp_prN_I hE hI (by omega) r1, by show a ≤ k + 1; omega⟩, by show b - (k + 1) < b - k; omega⟩
        · obtain ⟨s', d1, d2, _⟩ := yp_in_all hB2 (hS r4) k (by omega) r1 (hlev k ha (by omega)) _ (nI s hI g2) (yp_N 0)
          exact .inl ⟨_, pB3 k s s' g1 g2 r1 d1, ⟨d2, by show a ≤ (R k).2.2.2.2.1; omega⟩, by show b - (R k).2.2.2.2.1 < b - k; omega⟩) FU (a, s0) (by rw [yp_FUe]; show b - a < 8000; omega) ⟨h0, Nat.le_refl a⟩
  have dz := fun s k => yp_dnV_le (Q := Q) (H := s) (R k)
  refine ⟨s', yp_b1, b2, fun m hm => ?_, fun mr hbm m hm => ?_⟩
  · obtain ⟨x, y', g1, g2, g3⟩ := yp_lpSim (step := fun st : Int32 × Mem => fX10_perform_b11 (yp_SH B) Sc (B + 27) (B + 33) (yp_N b) (yp_N o) st.1 st.2) (ps := yp_prB Q R S b) (fun t st => ∃ m, t = (yp_N st.1, m) ∧ yp_CP B mc m st.2 ∧ yp_PfI Q st.2 ∧ a ≤ st.1 ∧ st.1 ≤ 200) (fun x s => yp_CP B mc x s) (fun st => b - st.1) (fun t st hI => by
      obtain ⟨k, s⟩ := st
      obtain ⟨m, rfl, i1, i2, i3, i5⟩ := hI
      have i1 : yp_CP B mc m s := i1
      have i2 : yp_PfI Q s := i2
      have i3 : a ≤ k := i3
      have i5 : k ≤ 200 := i5
      have i4 := i2.2
      have v9 := i1.2.2.1
      by_cases g1 : b ≤ k
      · exact .inr ⟨m, s, by simp (disch := omega) only [↓yp_lt1N, fX10_perform_b11, Nat.reduceAdd, Nat.reduceMul, Nat.reduceSub, Nat.zero_add, Nat.add_zero, yp_LT, yp_nA, yp_nM, yp_ltF, yp_ltT, yp_leF, yp_leT, yp_eqF, eq_self, yp_eqM, yp_lt1N, yp_sbN, yp_sb2N, ↓reduceIte, ↓yp_iP11, ↓yp_iP12, ↓yp_m0P], pB1 k s g1, i1⟩
      · by_cases g2 : 200 ≤ s.2.1
        · exact .inr ⟨m, s, by simp (disch := omega) only [↓yp_lt1N, fX10_perform_b11, hW, hL, v9, Nat.reduceAdd, Nat.reduceMul, Nat.reduceSub, Nat.zero_add, Nat.add_zero, yp_LT, yp_nA, yp_nM, yp_ltF, yp_ltT, yp_leF, yp_leT, yp_eqF, eq_self, yp_eqM, yp_lt1N, yp_sbN, yp_sb2N, ↓reduceIte, ↓yp_iP11, ↓yp_iP12, ↓yp_m0P], pB2 k s g1 g2, i1⟩
        · have n9 := yp_CP_9 i1
          have n9' := nI s i2 g2
          have rk := hrc k (by omega)
          have fr : ∀ q j, B + 28 ≤ q → q ≤ B + 32 → (up2 m (B + 27) 9 (yp_N (s.2.1 + 1))) q j = mc q j := fun q j q1 q2 => n9.1 q j (by unfold yp_TPc; omega)
          rcases row k i3 (by omega) with ⟨r1, r2⟩ | ⟨r1, r2, r3, r4⟩
          · have v0 := (fr (B + 28) k (by omega) (by omega)).trans rk.1
            have l7 : (R k).1 < 7 := by unfold yp_smp at r1; omega
            obtain ⟨m', d1, d2, d3⟩ := yp_c_done hE (hC.fr (fun q j h => n9.1 q j (by unfold yp_TPc; omega))) n9.2.1 (by omega) (show yp_rowC B (up2 m (B + 27) 9 (yp_N (s.2.1 + 1))) k (R k) by unfold yp_rowC; rw [fr _ k (by omega) (by omega), fr _ k (by omega) (by omega), fr _ k (by omega) (by omega), fr _ k (by omega) (by omega), fr _ k (by omega) (by omega)]; exact rk) r1
            have d1 : fX10_isDone (yp_SH B) (B + 27) (B + 33) (yp_N k) (up2 m (B + 27) 9 (yp_N (s.2.1 + 1))) = some (yp_N (yp_dnV Q s.1 (R k)).1, m') := d1
            obtain ⟨e0, e1⟩ := yp_CP_n n9 d2 d3
            rcases (show (yp_dnV Q s.1 (R k)).1 = 0 ∨ (yp_dnV Q s.1 (R k)).1 = 1 by have := dz s.1 k; omega) with v | v
            · obtain ⟨e0, e2⟩ := e0 v
              rw [v] at d1
              exact .inl ⟨(yp_N (k + 1), _), (k + 1, yp_prN Q (R k) s), by simp (disch := omega) only [↓yp_lt1N, fX10_perform_b11, hW, hL, v9, v0, ↓yp_bdP d1, d1, bd2, fX10_perform_j151, e0, Nat.reduceAdd, Nat.reduceMul, Nat.reduceSub, Nat.zero_add, Nat.add_zero, yp_LT, yp_nA, yp_nM, yp_ltF, yp_ltT, yp_leF, yp_leT, yp_eqF, eq_self, yp_eqM, yp_lt1N, yp_sbN, yp_sb2N, ↓reduceIte, ↓yp_iP11, ↓yp_iP12, ↓yp_m0P], pB4 k s g1 g2 r2, ⟨_, rfl, e2, yp_prN_I hE i2 (by omega) r1, by show a ≤ k + 1; omega, by show k + 1 ≤ 200; omega⟩, by show b - (k + 1) < b - k; omega⟩
            · obtain ⟨e1, e2⟩ := e1 v
              rw [v] at d1
              exact .inl ⟨(yp_N (k + 1), _), (k + 1, yp_prN Q (R k) s), by simp (disch := omega) only [↓yp_lt1N, fX10_perform_b11, hW, hL, v9, v0, ↓yp_bdP d1, d1, bd2, fX10_perform_j151, e1, Nat.reduceAdd, Nat.reduceMul, Nat.reduceSub, Nat.zero_add, Nat.add_zero, yp_LT, yp_nA, yp_nM, yp_ltF, yp_ltT, yp_leF, yp_leT, yp_eqF, eq_self, yp_eqM, yp_lt1N, yp_sbN, yp_sb2N, ↓reduceIte, ↓yp_iP11, ↓yp_iP12, ↓yp_m0P], pB4 k s g1 g2 r2, ⟨_, rfl, e2, yp_prN_I hE i2 (by omega) r1, by show a ≤ k + 1; omega, by show k + 1 ≤ 200; omega⟩, by show b - (k + 1) < b - k; omega⟩
          · obtain ⟨s', d1, d2, d3, _⟩ := yp_in_all hB2 (hS r4) k (by omega) r1 (hlev k i3 (by omega)) _ n9' (yp_N b)
            obtain ⟨m', d4, d5⟩ := d3 _ n9
            have v0 := (fr (B + 28) k (by omega) (by omega)).trans rk.1
            have v5 := (fr (B + 32) k (by omega) (by omega)).trans (rk.2.2.2.2 r1)
            rw [r1] at v0
            have x1 : mxI (yp_N k) (yp_N (R k).2.2.2.2.1 - yp_N 1) = yp_N ((R k).2.2.2.2.1 - 1) := by
              rw [yp_nS (by omega), yp_mxN (by omega) (by omega)]
              by_cases c : k < (R k).2.2.2.2.1 - 1
              · rw [if_pos c]
              · rw [if_neg c, show (R k).2.2.2.2.1 - 1 = k by omega]
            have x2 : (R k).2.2.2.2.1 - 1 + 1 = (R k).2.2.2.2.1 := by omega
            exact .inl ⟨(yp_N (R k).2.2.2.2.1, m'), ((R k).2.2.2.2.1, s'), by simp (disch := omega) only [↓yp_lt1N, fX10_perform_b11, hW, hL, v9, v0, v5, d4, fX10_perform_j104, x1, fX10_perform_j151, x2, Nat.reduceAdd, Nat.reduceMul, Nat.reduceSub, Nat.zero_add, Nat.add_zero, yp_LT, yp_nA, yp_nM, yp_ltF, yp_ltT, yp_leF, yp_leT, yp_eqF, eq_self, yp_eqM, yp_lt1N, yp_sbN, yp_sb2N, ↓reduceIte, ↓yp_iP11, ↓yp_iP12, ↓yp_m0P], pB3 k s s' g1 g2 r1 d1, ⟨m', rfl, d5, d2, by show a ≤ (R k).2.2.2.2.1; omega, by show (R k).2.2.2.2.1 ≤ 200; omega⟩, by show b - (R k).2.2.2.2.1 < b - k; omega⟩) FU (yp_N a, m) (a, s0) (by rw [yp_FUe]; show b - a < 8000; omega) ⟨m, rfl, hm, h0, Nat.le_refl a, ha2⟩
    rw [yp_b1] at g2
    obtain rfl : s' = y' := Option.some.inj g2
    refine ⟨x, ?_, g3⟩
    show fX10_perform_o (yp_SH B) Sc (B + 27) (B + 33) (yp_N a) (yp_N b) (yp_N o) m = some x
    simp (disch := omega) only [↓yp_lt1N, fX10_perform_o, ↓yp_opP g1, g1, fX10_perform_j157, Nat.reduceAdd, Nat.reduceMul, Nat.reduceSub, Nat.zero_add, Nat.add_zero, yp_LT, yp_nA, yp_nM, yp_ltF, yp_ltT, yp_leF, yp_leT, yp_eqF, eq_self, yp_eqM, yp_lt1N, yp_sbN, yp_sb2N, ↓reduceIte, ↓yp_iP11, ↓yp_iP12, ↓yp_m0P]
  · obtain ⟨hCm, hrm⟩ := hbm
    obtain ⟨x, y', g1, g2, g3⟩ := yp_lpSim (step := fun st : Int32 × Mem => fX12_goesSteps_b2 (yp_SH B) Sm (B + 517) (yp_N (4 * b)) st.1 st.2) (ps := yp_prB Q R S b) (fun t st => ∃ m, t = (yp_N (4 * st.1), m) ∧ yp_MP B mr m st.2 ∧ yp_PfI Q st.2 ∧ a ≤ st.1 ∧ st.1 ≤ 200) (fun x s => yp_MP B mr x s) (fun st => b - st.1) (fun t st hI => by
      obtain ⟨k, s⟩ := st
      obtain ⟨m, rfl, i1, i2, i3, i5⟩ := hI
      have i1 : yp_MP B mr m s := i1
      have i2 : yp_PfI Q s := i2
      have i3 : a ≤ k := i3
      have i5 : k ≤ 200 := i5
      have i4 := i2.2
      have v9 := i1.2.2.1
      by_cases g1 : b ≤ k
      · exact .inr ⟨m, s, by simp (disch := omega) only [↓yp_lt1N, fX12_goesSteps_b2, Nat.reduceAdd, Nat.reduceMul, Nat.reduceSub, Nat.zero_add, Nat.add_zero, yp_LT, yp_nA, yp_nM, yp_ltF, yp_ltT, yp_leF, yp_leT, yp_eqF, eq_self, yp_eqM, yp_lt1N, yp_sbN, yp_sb2N, ↓reduceIte, ↓yp_iP11, ↓yp_iP12, ↓yp_m0P], pB1 k s g1, i1⟩
      · by_cases g2 : 200 ≤ s.2.1
        · exact .inr ⟨m, s, by simp (disch := omega) only [↓yp_lt1N, fX12_goesSteps_b2, hM, hU, v9, Nat.reduceAdd, Nat.reduceMul, Nat.reduceSub, Nat.zero_add, Nat.add_zero, yp_LT, yp_nA, yp_nM, yp_ltF, yp_ltT, yp_leF, yp_leT, yp_eqF, eq_self, yp_eqM, yp_lt1N, yp_sbN, yp_sb2N, ↓reduceIte, ↓yp_iP11, ↓yp_iP12, ↓yp_m0P], pB2 k s g1 g2, i1⟩
        · have n9 := yp_MP_9 i1
          have n9' := nI s i2 g2
          have rk := hrm k (by omega)
          have fr : ∀ j, (up2 m (B + 517) 33 (yp_N (s.2.1 + 1))) (B + 531) j = mr (B + 531) j := fun j => n9.1 _ j (by unfold yp_TPm; omega)
          have v0 := (fr (4 * k)).trans rk.1
          have v1 := (fr (4 * k + 1)).trans rk.2.1
          have v2 := (fr (4 * k + 2)).trans rk.2.2.1
          have v3 := (fr (4 * k + 3)).trans rk.2.2.2
          have k4 : 4 * k + 4 = 4 * (k + 1) := by omega
          rcases row k i3 (by omega) with ⟨r1, r2⟩ | ⟨r1, r2, r3, r4⟩
          · rw [if_neg r2] at v2
            have l7 : (R k).1 < 7 := by unfold yp_smp at r1; omega
            obtain ⟨m', d1, d2, d3⟩ := yp_m_done hE i2.1 (hCm.fr (fun q j h => n9.1 q j (by unfold yp_TPm; omega))) n9.2.1 r1
            have d1 : fX12_isDone (yp_SH B) (B + 517) (yp_N (R k).1) (yp_N (R k).2.1) (yp_N (R k).2.2.1) (yp_N (R k).2.2.2.1) (up2 m (B + 517) 33 (yp_N (s.2.1 + 1))) = some (yp_N (yp_dnV Q s.1 (R k)).1, m') := d1
            obtain ⟨e0, e1⟩ := yp_MP_n n9 d2 d3
            rcases (show (yp_dnV Q s.1 (R k)).1 = 0 ∨ (yp_dnV Q s.1 (R k)).1 = 1 by have := dz s.1 k; omega) with v | v
            · obtain ⟨e0, e2⟩ := e0 v
              rw [v] at d1
              exact .inl ⟨(yp_N (4 * (k + 1)), _), (k + 1, yp_prN Q (R k) s), by simp (disch := omega) only [↓yp_lt1N, fX12_goesSteps_b2, hM, hU, v9, v0, v1, v2, v3, ↓yp_bdP d1, d1, bd2, fX12_goesSteps_j155, e0, k4, Nat.reduceAdd, Nat.reduceMul, Nat.reduceSub, Nat.zero_add, Nat.add_zero, yp_LT, yp_nA, yp_nM, yp_ltF, yp_ltT, yp_leF, yp_leT, yp_eqF, eq_self, yp_eqM, yp_lt1N, yp_sbN, yp_sb2N, ↓reduceIte, ↓yp_iP11, ↓yp_iP12, ↓yp_m0P], pB4 k s g1 g2 r2, ⟨_, rfl, e2, yp_prN_I hE i2 (by omega) r1, by show a ≤ k + 1; omega, by show k + 1 ≤ 200; omega⟩, by show b - (k + 1) < b - k; omega⟩
            · obtain ⟨e1, e2⟩ := e1 v
              rw [v] at d1
              exact .inl ⟨(yp_N (4 * (k + 1)), _), (k + 1, yp_prN Q (R k) s), by simp (disch := omega) only [↓yp_lt1N, fX12_goesSteps_b2, hM, hU, v9, v0, v1, v2, v3, ↓yp_bdP d1, d1, bd2, fX12_goesSteps_j155, e1, k4, Nat.reduceAdd, Nat.reduceMul, Nat.reduceSub, Nat.zero_add, Nat.add_zero, yp_LT, yp_nA, yp_nM, yp_ltF, yp_ltT, yp_leF, yp_leT, yp_eqF, eq_self, yp_eqM, yp_lt1N, yp_sbN, yp_sb2N, ↓reduceIte, ↓yp_iP11, ↓yp_iP12, ↓yp_m0P], pB4 k s g1 g2 r2, ⟨_, rfl, e2, yp_prN_I hE i2 (by omega) r1, by show a ≤ k + 1; omega, by show k + 1 ≤ 200; omega⟩, by show b - (k + 1) < b - k; omega⟩
          · obtain ⟨s', d1, d2, _, d3⟩ := yp_in_all hB2 (hS r4) k (by omega) r1 (hlev k i3 (by omega)) _ n9' (yp_N (4 * b))
            obtain ⟨m', d4, d5⟩ := d3 mr ⟨hCm, hrm⟩ _ n9
            rw [r1] at v0
            rw [if_pos r1] at v2
            exact .inl ⟨(yp_N (4 * (R k).2.2.2.2.1), m'), ((R k).2.2.2.2.1, s'), by simp (disch := omega) only [↓yp_lt1N, fX12_goesSteps_b2, hM, hU, v9, v0, v2, d4, fX12_goesSteps_j89, Nat.reduceAdd, Nat.reduceMul, Nat.reduceSub, Nat.zero_add, Nat.add_zero, yp_LT, yp_nA, yp_nM, yp_ltF, yp_ltT, yp_leF, yp_leT, yp_eqF, eq_self, yp_eqM, yp_lt1N, yp_sbN, yp_sb2N, ↓reduceIte, ↓yp_iP11, ↓yp_iP12, ↓yp_m0P], pB3 k s s' g1 g2 r1 d1, ⟨m', rfl, d5, d2, by show a ≤ (R k).2.2.2.2.1; omega, by show (R k).2.2.2.2.1 ≤ 200; omega⟩, by show b - (R k).2.2.2.2.1 < b - k; omega⟩) FU (yp_N (4 * a), m) (a, s0) (by rw [yp_FUe]; show b - a < 8000; omega) ⟨m, rfl, hm, h0, Nat.le_refl a, ha2⟩
    rw [yp_b1] at g2
    obtain rfl : s' = y' := Option.some.inj g2
    refine ⟨x, ?_, g3⟩
    show fX12_goesSteps_o (yp_SH B) Sm (B + 517) (yp_N (4 * a)) (yp_N (4 * b)) m = some x
    simp (disch := omega) only [↓yp_lt1N, fX12_goesSteps_o, ↓yp_opP g1, g1, fX12_goesSteps_j161, Nat.reduceAdd, Nat.reduceMul, Nat.reduceSub, Nat.zero_add, Nat.add_zero, yp_LT, yp_nA, yp_nM, yp_ltF, yp_ltT, yp_leF, yp_leT, yp_eqF, eq_self, yp_eqM, yp_lt1N, yp_sbN, yp_sb2N, ↓reduceIte, ↓yp_iP11, ↓yp_iP12, ↓yp_m0P]
set_option maxHeartbeats 1000000 in
theorem yp_K_perf (hB : yp_BAS B Q R len mc) : ∀ d o, o + d = 6 → ∀ fu fv, yp_KPf B Q R len mc o (yp_prR Q R (d + 1)) (fun a b m => fX10_perform (yp_SH B) (fu + d + 1) (B + 27) (B + 33) (yp_N a) (yp_N b) (yp_N o) m) (fun a b m => fX12_goesSteps (yp_SH B) (fv + d + 1) (B + 517) (yp_N (4 * a)) (yp_N (4 * b)) m)
  | 0 => fun o ho fu fv => yp_out_all (S := yp_prR Q R 0) (Sc := fX10_perform (yp_SH B) fu) (Sm := fX12_goesSteps (yp_SH B) fv) hB (by omega) (fun h => absurd h (by omega))
  | d + 1 => fun o ho fu fv => yp_out_all (S := yp_prR Q R (d + 1)) (Sc := fX10_perform (yp_SH B) (fu + d + 1)) (Sm := fX12_goesSteps (yp_SH B) (fv + d + 1)) hB (by omega) (fun _ => yp_K_perf hB d (o + 1) (by omega) fu fv)
end PERF2

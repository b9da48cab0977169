abbrev yp_PfS : Type := (Nat → Int32) × Nat × Nat × Nat
def yp_prI (R : Nat → yp_Rw) (S : Nat → Nat → yp_PfS → Option yp_PfS) (k : Nat) (st : Nat × yp_PfS) : Option ((Nat × yp_PfS) ⊕ yp_PfS) := if (R k).2.1 ≤ st.1 then some (.inr st.2) else if 200 ≤ st.2.2.1 then some (.inr st.2) else (S (k + 1) (R k).2.2.2.2.1 st.2).bind (fun s' => some (.inl (st.1 + 1, s')))
noncomputable def yp_prN (Q : yp_EnvT) (x : yp_Rw) (s : yp_PfS) : yp_PfS := ((yp_dnV Q s.1 x).2, s.2.1 + 1, s.2.2.1 + (yp_dnV Q s.1 x).1, s.2.2.2 + (1 - (yp_dnV Q s.1 x).1))
noncomputable def yp_prB (Q : yp_EnvT) (R : Nat → yp_Rw) (S : Nat → Nat → yp_PfS → Option yp_PfS) (b : Nat) (st : Nat × yp_PfS) : Option ((Nat × yp_PfS) ⊕ yp_PfS) := if b ≤ st.1 then some (.inr st.2) else if 200 ≤ st.2.2.1 then some (.inr st.2) else if (R st.1).1 = 6 then (loopN (yp_prI R S st.1) FU (0, (st.2.1, st.2.2.1 + 1, st.2.2.2))).bind (fun s' => some (.inl ((R st.1).2.2.2.2.1, s'))) else some (.inl (st.1 + 1, yp_prN Q (R st.1) st.2))
noncomputable def yp_prR (Q : yp_EnvT) (R : Nat → yp_Rw) : Nat → Nat → Nat → yp_PfS → Option yp_PfS
  | 0 => fun _ _ _ => none
  | d + 1 => fun a b s => loopN (yp_prB Q R (yp_prR Q R d) b) FU (a, s)
section PERF
variable {B : Nat} {Q : yp_EnvT} {R : Nat → yp_Rw} {len : Nat} {mc : Mem}
def yp_TPc (B : Nat) : Nat → Nat → Prop := fun a j => a = B + 13 ∨ a = B + 24 ∨ a = B + 25 ∨ (B + 33 ≤ a ∧ a ≤ B + 38) ∨ (a = B + 27 ∧ (j = 9 ∨ j = 10 ∨ j = 11))
def yp_TPm (B : Nat) : Nat → Nat → Prop := fun a j => a = B + 528 ∨ a = B + 529 ∨ a = B + 535 ∨ a = B + 533 ∨ (a = B + 517 ∧ (j = 33 ∨ j = 34 ∨ j = 35))
def yp_CP (B : Nat) (mc m : Mem) (s : yp_PfS) : Prop := yp_Fr (yp_TPc B) mc m ∧ yp_HC m (B + 33) s.1 ∧ m (B + 27) 9 = yp_N s.2.1 ∧ m (B + 27) 10 = yp_N s.2.2.1 ∧ m (B + 27) 11 = yp_N s.2.2.2
def yp_MP (B : Nat) (mr m : Mem) (s : yp_PfS) : Prop := yp_Fr (yp_TPm B) mr m ∧ yp_HM m (B + 533) s.1 ∧ m (B + 517) 33 = yp_N s.2.1 ∧ m (B + 517) 34 = yp_N s.2.2.1 ∧ m (B + 517) 35 = yp_N s.2.2.2
def yp_rwS (B : Nat) (m : Mem) (k : Nat) (x : yp_Rw) : Prop := m (B + 531) (4 * k) = yp_N x.1 ∧ m (B + 531) (4 * k + 1) = yp_N x.2.1 ∧ m (B + 531) (4 * k + 2) = yp_N (if x.1 = 6 then 4 * x.2.2.2.2.1 else x.2.2.1) ∧ m (B + 531) (4 * k + 3) = yp_N x.2.2.2.1
def yp_BAS (B : Nat) (Q : yp_EnvT) (R : Nat → yp_Rw) (len : Nat) (mc : Mem) : Prop := (yp_EV Q ∧ len ≤ 40) ∧ yp_rwsOK (yp_qf Q) (yp_qg Q) 0 0 len R ∧ (yp_CLc B mc Q ∧ ∀ k, k < len → yp_rowC B mc k (R k))
def yp_BAM (B : Nat) (Q : yp_EnvT) (R : Nat → yp_Rw) (len : Nat) (mr : Mem) : Prop := yp_CLm B mr Q ∧ ∀ k, k < len → yp_rwS B mr k (R k)
def yp_PfI (Q : yp_EnvT) (s : yp_PfS) : Prop := yp_HI Q s.1 ∧ s.2.1 ≤ 200
def yp_KPf (B : Nat) (Q : yp_EnvT) (R : Nat → yp_Rw) (len : Nat) (mc : Mem) (o : Nat) (S : Nat → Nat → yp_PfS → Option yp_PfS) (Fc Fm : Nat → Nat → Mem → Option Mem) : Prop := ∀ a b s, a ≤ 200 → b ≤ len → (∀ j, a ≤ j → j < b → o ≤ (R j).2.2.2.2.2) → yp_PfI Q s → ∃ s', S a b s = some s' ∧ yp_PfI Q s' ∧ (∀ m, yp_CP B mc m s → ∃ m', Fc a b m = some m' ∧ yp_CP B mc m' s') ∧ (∀ mr, yp_BAM B Q R len mr → ∀ m, yp_MP B mr m s → ∃ m', Fm a b m = some m' ∧ yp_MP B mr m' s')
set_option maxHeartbeats 1000000 in
theorem yp_in_all {o : Nat} {S : Nat → Nat → yp_PfS → Option yp_PfS} {Sc : Nat → Nat → Int32 → Int32 → Int32 → Mem → Option Mem} {Sm : Nat → Int32 → Int32 → Mem → Option Mem} (hB : yp_BAS B Q R len mc) (hS : yp_KPf B Q R len mc (o + 1) S (fun a b m => Sc (B + 27) (B + 33) (yp_N a) (yp_N b) (yp_N (o + 1)) m) (fun a b m => Sm (B + 517) (yp_N (4 * a)) (yp_N (4 * b)) m)) (k : Nat) (hk : k < len) (h6 : (R k).1 = 6) (hl : o ≤ (R k).2.2.2.2.2) (s0 : yp_PfS) (h0 : yp_PfI Q s0) (y : Int32) : ∃ s', loopN (yp_prI R S k) FU (0, s0) = some s' ∧ yp_PfI Q s' ∧ (∀ m, yp_CP B mc m s0 → ∃ m', loopN (fun st : Int32 × Mem => fX10_perform_b61 (yp_SH B) Sc (B + 27) (B + 33) y (yp_N o) (yp_N k) (yp_N (R k).2.2.2.2.1) st.1 st.2) FU (yp_N 0, m) = some m' ∧ yp_CP B mc m' s') ∧ (∀ mr, yp_BAM B Q R len mr → ∀ m, yp_MP B mr m s0 → ∃ m', loopN (fun st : Int32 × Mem => fX12_goesSteps_b51 (yp_SH B) Sm (B + 517) y (yp_N (4 * k)) (yp_N (4 * (R k).2.2.2.2.1)) st.1 st.2) FU (yp_N 0, m) = some m' ∧ yp_MP B mr m' s') := by
  have hW := yp_wspS B
  have hL := yp_wspL B
  have hM := yp_mS B
  have hU := yp_wmS B
  obtain ⟨⟨hE, l40⟩, hR, ⟨hC, hrc⟩⟩ := hB
  have ok := hR k (Nat.zero_le k) hk
  have q : (R k).2.1 ≤ 40 ∧ k + 1 ≤ (R k).2.2.2.2.1 ∧ (R k).2.2.2.2.1 ≤ len ∧ (R k).2.2.2.2.2 ≤ 5 ∧ ∀ j, k < j → j < (R k).2.2.2.2.1 → (R k).2.2.2.2.2 + 1 ≤ (R j).2.2.2.2.2 := by
    rcases ok.2 with q | q | q | q | q
    · omega
    · omega
    · omega
    · omega
    · exact q.2
  obtain ⟨q1, q2, q3, q4, q5⟩ := q
  have hS' := fun s hs => hS (k + 1) (R k).2.2.2.2.1 s (by omega) q3 (fun j j1 j2 => by have := q5 j (by omega) j2; omega) hs
  have c1 := (hrc k hk).2.1 (by omega)
  have e1 : yp_N k + 1 = yp_N (k + 1) := yp_nA k 1
  obtain ⟨s', yp_b1, b2⟩ := yp_lpP (ps := yp_prI R S k) (fun st => yp_PfI Q st.2) (fun s => yp_PfI Q s) (fun st => 41 - st.1) (fun st hI => by
    obtain ⟨i, s⟩ := st
    by_cases g1 : (R k).2.1 ≤ i
    · exact .inr ⟨s, if_pos g1, hI⟩
    · by_cases g2 : 200 ≤ s.2.1
      · exact .inr ⟨s, (if_neg g1).trans (if_pos g2), hI⟩
      · obtain ⟨s', d1, d2, _⟩ := hS' s hI
        refine .inl ⟨(i + 1, s'), (if_neg g1).trans ((if_neg g2).trans ?_), d2, by show 41 - (i + 1) < 41 - i; omega⟩
        show (S (k + 1) (R k).2.2.2.2.1 s).bind _ = _
        rw [d1]; rfl) FU (0, s0) (by rw [yp_FUe]; show 41 - 0 < 8000; omega) h0
  refine ⟨s', yp_b1, b2, fun m hm => ?_, fun mr hb m hm => ?_⟩
  · obtain ⟨x, y', g1, g2, g3⟩ := yp_lpSim (step := fun st : Int32 × Mem => fX10_perform_b61 (yp_SH B) Sc (B + 27) (B + 33) y (yp_N o) (yp_N k) (yp_N (R k).2.2.2.2.1) st.1 st.2) (ps := yp_prI R S k) (fun t st => ∃ m, t = (yp_N st.1, m) ∧ yp_CP B mc m st.2 ∧ yp_PfI Q st.2 ∧ st.1 ≤ 41) (fun x s => yp_CP B mc x s) (fun st => 41 - st.1) (fun t st hI => by
      obtain ⟨i, s⟩ := st
      obtain ⟨m, rfl, i1, i2, i3⟩ := hI
      have i1 : yp_CP B mc m s := i1
      have i2 : yp_PfI Q s := i2
      have i3 : i ≤ 41 := i3
      have i4 := i2.2
      have v1 : m (B + 29) k = yp_N (R k).2.1 := (i1.1 _ _ (by unfold yp_TPc; omega)).trans c1
      have v9 := i1.2.2.1
      by_cases g1 : (R k).2.1 ≤ i
      · exact .inr ⟨m, s, by simp (disch := omega) only [↓yp_lt1N, fX10_perform_b61, hW, hL, v1, Nat.reduceAdd, Nat.reduceMul, Nat.reduceSub, Nat.zero_add, Nat.add_zero, yp_LT, yp_nA, yp_nM, yp_ltF, yp_ltT, yp_leF, yp_leT, yp_eqF, eq_self, yp_eqM, yp_lt1N, yp_sbN, yp_sb2N, ↓reduceIte, ↓yp_iP11, ↓yp_iP12, ↓yp_m0P], if_pos g1, i1⟩
      · by_cases g2 : 200 ≤ s.2.1
        · exact .inr ⟨m, s, by simp (disch := omega) only [↓yp_lt1N, fX10_perform_b61, hW, hL, v1, v9, Nat.reduceAdd, Nat.reduceMul, Nat.reduceSub, Nat.zero_add, Nat.add_zero, yp_LT, yp_nA, yp_nM, yp_ltF, yp_ltT, yp_leF, yp_leT, yp_eqF, eq_self, yp_eqM, yp_lt1N, yp_sbN, yp_sb2N, ↓reduceIte, ↓yp_iP11, ↓yp_iP12, ↓yp_m0P], (if_neg g1).trans (if_pos g2), i1⟩
        · obtain ⟨s', d1, d2, d3, _⟩ := hS' s i2
          obtain ⟨m', d4, d5⟩ := d3 m i1
          have d4 : Sc (B + 27) (B + 33) (yp_N (k + 1)) (yp_N (R k).2.2.2.2.1) (yp_N (o + 1)) m = some m' := d4
          refine .inl ⟨(yp_N (i + 1), m'), (i + 1, s'), by simp (disch := omega) only [↓yp_lt1N, fX10_perform_b61, hW, hL, v1, v9, d4, Nat.reduceAdd, Nat.reduceMul, Nat.reduceSub, Nat.zero_add, Nat.add_zero, yp_LT, yp_nA, yp_nM, yp_ltF, yp_ltT, yp_leF, yp_leT, yp_eqF, eq_self, yp_eqM, yp_lt1N, yp_sbN, yp_sb2N, ↓reduceIte, ↓yp_iP11, ↓yp_iP12, ↓yp_m0P], (if_neg g1).trans ((if_neg g2).trans ?_), ⟨m', rfl, d5, d2, by show i + 1 ≤ 41; omega⟩, by show 41 - (i + 1) < 41 - i; omega⟩
          show (S (k + 1) (R k).2.2.2.2.1 s).bind _ = _
          rw [d1]; rfl) FU (yp_N 0, m) (0, s0) (by rw [yp_FUe]; show 41 - 0 < 8000; omega) ⟨m, rfl, hm, h0, by show 0 ≤ 41; omega⟩
    rw [yp_b1] at g2
    obtain rfl : s' = y' := Option.some.inj g2
    exact ⟨x, g1, g3⟩
  · have c2 := (hb.2 k hk).2.1
    obtain ⟨x, y', g1, g2, g3⟩ := yp_lpSim (step := fun st : Int32 × Mem => fX12_goesSteps_b51 (yp_SH B) Sm (B + 517) y (yp_N (4 * k)) (yp_N (4 * (R k).2.2.2.2.1)) st.1 st.2) (ps := yp_prI R S k) (fun t st => ∃ m, t = (yp_N st.1, m) ∧ yp_MP B mr m st.2 ∧ yp_PfI Q st.2 ∧ st.1 ≤ 41) (fun x s => yp_MP B mr x s) (fun st => 41 - st.1) (fun t st hI => by
      obtain ⟨i, s⟩ := st
      obtain ⟨m, rfl, i1, i2, i3⟩ := hI
      have i1 : yp_MP B mr m s := i1
      have i2 : yp_PfI Q s := i2
      have i3 : i ≤ 41 := i3
      have i4 := i2.2
      have v1 : m (B + 531) (4 * k + 1) = yp_N (R k).2.1 := (i1.1 _ _ (by unfold yp_TPm; omega)).trans c2
      have v9 := i1.2.2.1
      by_cases g1 : (R k).2.1 ≤ i
      · exact .inr ⟨m, s, by simp (disch := omega) only [↓yp_lt1N, fX12_goesSteps_b51, hM, hU, v1, Nat.reduceAdd, Nat.reduceMul, Nat.reduceSub, Nat.zero_add, Nat.add_zero, yp_LT, yp_nA, yp_nM, yp_ltF, yp_ltT, yp_leF, yp_leT, yp_eqF, eq_self, yp_eqM, yp_lt1N, yp_sbN, yp_sb2N, ↓reduceIte, ↓yp_iP11, ↓yp_iP12, ↓yp_m0P], if_pos g1, i1⟩
      · by_cases g2 : 200 ≤ s.2.1
        · exact .inr ⟨m, s, by simp (disch := omega) only [↓yp_lt1N, fX12_goesSteps_b51, hM, hU, v1, v9, Nat.reduceAdd, Nat.reduceMul, Nat.reduceSub, Nat.zero_add, Nat.add_zero, yp_LT, yp_nA, yp_nM, yp_ltF, yp_ltT, yp_leF, yp_leT, yp_eqF, eq_self, yp_eqM, yp_lt1N, yp_sbN, yp_sb2N, ↓reduceIte, ↓yp_iP11, ↓yp_iP12, ↓yp_m0P], (if_neg g1).trans (if_pos g2), i1⟩
        · obtain ⟨s', d1, d2, _, d3⟩ := hS' s i2
          obtain ⟨m', d4, d5⟩ := d3 mr hb m i1
          have d4 : Sm (B + 517) (yp_N (4 * k + 4)) (yp_N (4 * (R k).2.2.2.2.1)) m = some m' := by rw [show 4 * k + 4 = 4 * (k + 1) by omega]; exact d4
          refine .inl ⟨(yp_N (i + 1), m'), (i + 1, s'), by simp (disch := omega) only [↓yp_lt1N, fX12_goesSteps_b51, hM, hU, v1, v9, d4, Nat.reduceAdd, Nat.reduceMul, Nat.reduceSub, Nat.zero_add, Nat.add_zero, yp_LT, yp_nA, yp_nM, yp_ltF, yp_ltT, yp_leF, yp_leT, yp_eqF, eq_self, yp_eqM, yp_lt1N, yp_sbN, yp_sb2N, ↓reduceIte, ↓yp_iP11, ↓yp_iP12, ↓yp_m0P], (if_neg g1).trans ((if_neg g2).trans ?_), ⟨m', rfl, d5, d2, by show i + 1 ≤ 41; omega⟩, by show 41 - (i + 1) < 41 - i; omega⟩
          show (S (k + 1) (R k).2.2.2.2.1 s).bind _ = _
          rw [d1]; rfl) FU (yp_N 0, m) (0, s0) (by rw [yp_FUe]; show 41 - 0 < 8000; omega) ⟨m, rfl, hm, h0, by show 0 ≤ 41; omega⟩
    rw [yp_b1] at g2
    obtain rfl : s' = y' := Option.some.inj g2
    exact ⟨x, g1, g3⟩
set_option maxHeartbeats 1000000 in
theorem yp_prN_I {x : yp_Rw} {s : yp_PfS} (hE : yp_EV Q) (h : yp_PfI Q s) (h2 : s.2.1 < 200) (hx : yp_smp (yp_qf Q) (yp_qg Q) x) : yp_PfI Q (yp_prN Q x s) := ⟨yp_dnV_HI hE h.1 hx, by show s.2.1 + 1 ≤ 200; omega⟩
end PERF

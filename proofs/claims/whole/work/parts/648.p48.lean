set_option maxHeartbeats 1000000 in
theorem yp_lpXx {S X : Type} {step : S → Option (S ⊕ X)} {s : S} {x : X} (h : step s = some (.inr x)) : loopN step FU s = some x := by
  rw [yp_FUe]
  show loopN step (7999 + 1) s = some x
  unfold loopN
  rw [h]
  rfl
def yp_opP2 (c : Nat) : Nat := if c = 42 then 4 else if c = 47 then 5 else if c = 37 then 8 else 0
def yp_opS2 (c : Nat) : Nat := if c = 43 then 2 else if c = 45 then 3 else 0
set_option maxHeartbeats 1000000 in
theorem yp_opP2_r (c : Nat) : yp_opP2 c = 0 ∨ (2 ≤ yp_opP2 c ∧ yp_opP2 c ≤ 8) := by
  unfold yp_opP2
  split
  · omega
  · split
    · omega
    · split <;> omega
set_option maxHeartbeats 1000000 in
theorem yp_opS2_r (c : Nat) : yp_opS2 c = 0 ∨ (2 ≤ yp_opS2 c ∧ yp_opS2 c ≤ 8) := by
  unfold yp_opS2
  split
  · omega
  · split <;> omega
set_option maxHeartbeats 1000000 in
theorem yp_opP2_c {c : Nat} (h : yp_opP2 c ≠ 0) : c = 42 ∨ c = 47 ∨ c = 37 := by
  unfold yp_opP2 at h
  split at h
  · omega
  · split at h
    · omega
    · split at h
      · omega
      · exact absurd rfl h
set_option maxHeartbeats 1000000 in
theorem yp_opS2_c {c : Nat} (h : yp_opS2 c ≠ 0) : c = 43 ∨ c = 45 := by
  unfold yp_opS2 at h
  split at h
  · omega
  · split at h
    · omega
    · exact absurd rfl h
section CHAIN
variable {B : Nat} {t : Nat → Nat} {n : Nat}
set_option maxHeartbeats 1000000 in
theorem yp_K_chain {U : yp_LwT → Option yp_LwR} {op : Nat → Nat} {fc fc' : Mem → Option (Int32 × Mem)} {fm fm' : Mem → Option Mem} {cs : Int32 × Int32 × Mem → Option ((Int32 × Int32 × Mem) ⊕ (Mem ⊕ (Int32 × Mem)))} {ms : Mem → Option (Mem ⊕ Mem)} {o : Nat} (hn : n ≤ 150) (hop : ∀ c, op c = 0 ∨ (2 ≤ op c ∧ op c ≤ 8)) (hU : yp_KU B t n o U fc fm)
    (hc0 : ∀ i m, i < 150 → cs (yp_N 0, yp_N i, m) = some (.inr (.inr (yp_N 0, m))))
    (hc1 : ∀ i m z, i < 150 → yp_LC B m t n z → ¬ (yp_sk t n z.1 < n ∧ op (t (yp_sk t n z.1)) ≠ 0) → cs (yp_N 1, yp_N i, m) = some (.inr (.inl (yp_cAt B m (yp_sk t n z.1)))))
    (hc2 : ∀ i m z, i < 150 → yp_LC B m t n z → (yp_sk t n z.1 < n ∧ op (t (yp_sk t n z.1)) ≠ 0) → ∀ m1, (fc (yp_cAt B m (yp_sk t n z.1 + 1)) = some (yp_N 0, m1) → cs (yp_N 1, yp_N i, m) = some (.inl (yp_N 0, yp_N (i + 1), m1))) ∧ (∀ l, fc (yp_cAt B m (yp_sk t n z.1 + 1)) = some (yp_N 1, m1) → m1 (B + 14) 2 = yp_N l → l < 151 → cs (yp_N 1, yp_N i, m) = some (.inl (yp_N 1, yp_N (i + 1), yp_layC B m1 l (yp_ctok (op (t (yp_sk t n z.1)), 0))))))
    (hm0 : ∀ m, ¬ m (B + 517) 5 = -yp_N 1 → ms m = some (.inr m))
    (hm1 : ∀ m z, yp_LM B m t n z o → ¬ (yp_sk t n z.1 < n ∧ op (t (yp_sk t n z.1)) ≠ 0) → ms m = some (.inr (yp_rAt B m (yp_sk t n z.1))))
    (hm2 : ∀ m z, yp_LM B m t n z o → (yp_sk t n z.1 < n ∧ op (t (yp_sk t n z.1)) ≠ 0) → ∀ m1 m2, fm (yp_rAt B m (yp_sk t n z.1 + 1)) = some m1 → fX12_emit (yp_SH B) (B + 517) (yp_N (op (t (yp_sk t n z.1)))) (yp_N 0) m1 = some m2 → ms m = some (.inl m2))
    (hfc : ∀ m v m1 x, fc m = some (v, m1) → loopN cs FU (v, yp_N 0, m1) = some x → fc' m = (Sum.elim (fun q => some (yp_N 1, q)) (fun q => (ckZ q.1).bind fun w => some (w, q.2)) x))
    (hfm : ∀ m m1 x, fm m = some m1 → loopN ms FU m1 = some x → fm' m = some x) : yp_KU B t n o (yp_chain t n U op) fc' fm' := by
  refine ⟨fun z h1 h2 => ?_, fun m h => hfm m m m (hU.2 m h) (yp_lpXx (hm0 m h))⟩
  obtain ⟨r, a1, a2, a3, a4, a5⟩ := hU.1 z h1 h2
  obtain ⟨y, yp_b1, b2, b3⟩ := yp_ch_pure (t := t) (U := U) (op := op) hn hop (fun z h1 h2 => by
    obtain ⟨r, a1, a2, a3, _⟩ := hU.1 z h1 h2
    exact ⟨r, a1, a2, a3⟩) z h2 r a2 a3
  refine ⟨y, by unfold yp_chain; rw [a1]; exact yp_b1, b2, b3, fun m hm => ?_, fun m hm => ?_⟩
  · obtain ⟨m1, d1, d2, d3, d4⟩ := a4 m hm
    obtain ⟨x, y', g1, g2, g3⟩ := yp_ch_c (B := B) (t := t) (U := U) (op := op) (fc := fc) (cs := cs) hn (fun z h1 h2 => by
      obtain ⟨r, a1, a2, a3, a4, _⟩ := hU.1 z h1 h2
      exact ⟨r, a1, a2, a3, a4⟩) hc0 hc1 hc2 z h2 m m1 r d2 d3 (fun k => ⟨d4 k, by have := (a3 k).lt; omega⟩)
    rw [yp_b1] at g2
    obtain rfl : y = y' := Option.some.inj g2
    have g4 := hfc m _ m1 x d1 g1
    rcases g3 with ⟨k, m', rfl, g5, g6⟩ | ⟨k, m', rfl, g5, g6⟩
    · exact ⟨m', by rw [g4, if_pos k]; rfl, g6, by rw [g5.2.1, yp_FLk_0 k], fun _ => g5⟩
    · exact ⟨m', by rw [g4, if_neg k]; rfl, g6, g5, fun q => absurd q k⟩
  · obtain ⟨m1, d1, d2, d3, d4⟩ := a5 m hm
    obtain ⟨x, y', g1, g2, g3, g4, g5⟩ := yp_ch_m (B := B) (t := t) (U := U) (op := op) (fm := fm) (ms := ms) (o := o) hn (fun z h1 h2 => by
      obtain ⟨r, a1, a2, a3, _, a5⟩ := hU.1 z h1 h2
      exact ⟨r, a1, a2, a3, a5⟩) hm0 hm1 hm2 z h2 m m1 r d2 d3 d4
    rw [yp_b1] at g2
    obtain rfl : y = y' := Option.some.inj g2
    exact ⟨x, hfm m m1 x d1 g1, g4, g3, g5⟩
set_option maxHeartbeats 1000000 in
theorem yp_tk0 {m : Mem} {z : yp_LwT} (h : yp_LC B m t n z) (c : Nat) (hc : c < 256) (e : ¬ (yp_sk t n z.1 < n ∧ t (yp_sk t n z.1) = c)) : fX8_takes (yp_SH B) (B + 1) (yp_N c) m = some (yp_N 0, yp_cAt B m (yp_sk t n z.1)) ∧ fX8_takes (yp_SH B) (B + 1) (yp_N c) (yp_cAt B m (yp_sk t n z.1)) = some (yp_N 0, yp_cAt B m (yp_sk t n z.1)) := by
  have q := h.1.at (yp_sk_le (t := t) h.1.2.2.1)
  have e2 := yp_c_takes0 q c hc (by rw [yp_sk_fix]; exact e)
  rw [yp_sk_fix, yp_cAt2] at e2
  exact ⟨yp_c_takes0 h.1 c hc e, e2⟩
set_option maxHeartbeats 1000000 in
theorem yp_tk1 {m : Mem} {z : yp_LwT} (h : yp_LC B m t n z) (c : Nat) (hc : c < 256) (e : yp_sk t n z.1 < n ∧ t (yp_sk t n z.1) = c) : fX8_takes (yp_SH B) (B + 1) (yp_N c) m = some (yp_N 1, yp_cAt B m (yp_sk t n z.1 + 1)) ∧ fX8_takes (yp_SH B) (B + 1) (yp_N c) (yp_cAt B m (yp_sk t n z.1)) = some (yp_N 1, yp_cAt B m (yp_sk t n z.1 + 1)) := by
  have q := h.1.at (yp_sk_le (t := t) h.1.2.2.1)
  have e2 := yp_c_takes1 q c hc (by rw [yp_sk_fix]; exact e)
  rw [yp_sk_fix, yp_cAt2] at e2
  exact ⟨yp_c_takes1 h.1 c hc e, e2⟩
set_option maxHeartbeats 1000000 in
theorem yp_hr0 {m : Mem} {z : yp_LwT} {o : Nat} (h : yp_LM B m t n z o) : ∃ v, v < 256 ∧ (v = t (yp_sk t n z.1) ∧ yp_sk t n z.1 < n ∨ v = 0 ∧ ¬ yp_sk t n z.1 < n) ∧ fX12_here (yp_SH B) (B + 517) m = some (yp_N v, yp_rAt B m (yp_sk t n z.1)) ∧ fX12_here (yp_SH B) (B + 517) (yp_rAt B m (yp_sk t n z.1)) = some (yp_N v, yp_rAt B m (yp_sk t n z.1)) := by
  have q := h.1.at (yp_sk_le (t := t) h.1.2.2.1)
  have e1 := yp_m_here h.1
  have e2 := yp_m_here q
  rw [yp_sk_fix, yp_rAt2] at e2
  by_cases e : yp_sk t n z.1 < n
  · rw [if_pos e] at e1 e2
    exact ⟨_, h.1.2.2.2 _, .inl ⟨rfl, e⟩, e1, e2⟩
  · rw [if_neg e] at e1 e2
    exact ⟨0, by omega, .inr ⟨rfl, e⟩, e1, e2⟩
set_option maxHeartbeats 1000000 in
theorem yp_K_prod {U : yp_LwT → Option yp_LwR} {Sc : Nat → Nat → Int32 → Mem → Option (Int32 × Mem)} {Sm : Nat → Mem → Option Mem} {o : Nat} (hn : n ≤ 150) (hU : yp_KU B t n o U (fun m => fX4_readUnit_o (yp_SH B) Sc (B + 14) (B + 1) (yp_N o) m) (fun m => fX12_readUnit_o (yp_SH B) Sm (B + 517) m)) : yp_KU B t n o (yp_chain t n U yp_opP2) (fun m => fX4_readProduct_o (yp_SH B) Sc (B + 14) (B + 1) (yp_N o) m) (fun m => fX12_readProduct_o (yp_SH B) Sm (B + 517) m) := by
  have hM := yp_mS B
  refine yp_K_chain (cs := fun st : Int32 × Int32 × Mem => fX4_readProduct_b10 (yp_SH B) Sc (B + 14) (B + 1) (yp_N o) st.1 st.2.1 st.2.2) (ms := fun st : Mem => fX12_readProduct_b4 (yp_SH B) Sm (B + 517) st) hn yp_opP2_r hU (fun i m hi => ?_) (fun i m z hi h e => ?_) (fun i m z hi h e m1 => ⟨fun g => ?_, fun l g gl hl => ?_⟩) (fun m h => ?_) (fun m z h e => ?_) (fun m z h e m1 m2 g1 g2 => ?_) (fun m v m1 x h1 h2 => ?_) (fun m m1 x h1 h2 => ?_)
  · simp (disch := omega) only [↓yp_lt1N, fX4_readProduct_b10, fX4_readProduct_j68, fX4_readProduct_j100, fX4_readProduct_j101, ↓yp_iP8, ↓yp_iP4, Nat.reduceAdd, Nat.reduceMul, Nat.reduceSub, Nat.zero_add, Nat.add_zero, yp_LT, yp_nA, yp_nM, yp_ltF, yp_ltT, yp_leF, yp_leT, yp_eqF, eq_self, yp_eqM, yp_lt1N, yp_sbN, yp_sb2N, ↓reduceIte, ↓yp_iP11, ↓yp_iP12, ↓yp_m0P]
  · have a1 := yp_tk0 h 42 (by omega) (fun q => e ⟨q.1, by rw [q.2]; decide⟩)
    have a2 := yp_tk0 h 47 (by omega) (fun q => e ⟨q.1, by rw [q.2]; decide⟩)
    have a3 := yp_tk0 h 37 (by omega) (fun q => e ⟨q.1, by rw [q.2]; decide⟩)
    simp (disch := omega) only [↓yp_lt1N, fX4_readProduct_b10, fX4_readProduct_j68, fX4_readProduct_j100, fX4_readProduct_j101, ↓yp_iP8, ↓yp_iP4, a1.1, a2.2, a3.2, Nat.reduceAdd, Nat.reduceMul, Nat.reduceSub, Nat.zero_add, Nat.add_zero, yp_LT, yp_nA, yp_nM, yp_ltF, yp_ltT, yp_leF, yp_leT, yp_eqF, eq_self, yp_eqM, yp_lt1N, yp_sbN, yp_sb2N, ↓reduceIte, ↓yp_iP11, ↓yp_iP12, ↓yp_m0P]
  · have g : fX4_readUnit_o (yp_SH B) Sc (B + 14) (B + 1) (yp_N o) (yp_cAt B m (yp_sk t n z.1 + 1)) = some (yp_N 0, m1) := g
    rcases yp_opP2_c e.2 with c | c | c
    · have a1 := yp_tk1 h 42 (by omega) ⟨e.1, c⟩
      simp (disch := omega) only [↓yp_lt1N, fX4_readProduct_b10, fX4_readProduct_j68, fX4_readProduct_j100, fX4_readProduct_j101, ↓yp_iP8, ↓yp_iP4, a1.1, g, Nat.reduceAdd, Nat.reduceMul, Nat.reduceSub, Nat.zero_add, Nat.add_zero, yp_LT, yp_nA, yp_nM, yp_ltF, yp_ltT, yp_leF, yp_leT, yp_eqF, eq_self, yp_eqM, yp_lt1N, yp_sbN, yp_sb2N, ↓reduceIte, ↓yp_iP11, ↓yp_iP12, ↓yp_m0P]
    · have a1 := yp_tk0 h 42 (by omega) (fun q => by omega)
      have a2 := yp_tk1 h 47 (by omega) ⟨e.1, c⟩
      simp (disch := omega) only [↓yp_lt1N, fX4_readProduct_b10, fX4_readProduct_j68, fX4_readProduct_j100, fX4_readProduct_j101, ↓yp_iP8, ↓yp_iP4, a1.1, a2.2, g, Nat.reduceAdd, Nat.reduceMul, Nat.reduceSub, Nat.zero_add, Nat.add_zero, yp_LT, yp_nA, yp_nM, yp_ltF, yp_ltT, yp_leF, yp_leT, yp_eqF, eq_self, yp_eqM, yp_lt1N, yp_sbN, yp_sb2N, ↓reduceIte, ↓yp_iP11, ↓yp_iP12, ↓yp_m0P]
    · have a1 := yp_tk0 h 42 (by omega) (fun q => by omega)
      have a2 := yp_tk0 h 47 (by omega) (fun q => by omega)
      have a3 := yp_tk1 h 37 (by omega) ⟨e.1, c⟩
      simp (disch := omega) only [↓yp_lt1N, fX4_readProduct_b10, fX4_readProduct_j68, fX4_readProduct_j100, fX4_readProduct_j101, ↓yp_iP8, ↓yp_iP4, a1.1, a2.2, a3.2, g, Nat.reduceAdd, Nat.reduceMul, Nat.reduceSub, Nat.zero_add, Nat.add_zero, yp_LT, yp_nA, yp_nM, yp_ltF, yp_ltT, yp_leF, yp_leT, yp_eqF, eq_self, yp_eqM, yp_lt1N, yp_sbN, yp_sb2N, ↓reduceIte, ↓yp_iP11, ↓yp_iP12, ↓yp_m0P]
  · have g : fX4_readUnit_o (yp_SH B) Sc (B + 14) (B + 1) (yp_N o) (yp_cAt B m (yp_sk t n z.1 + 1)) = some (yp_N 1, m1) := g
    rcases yp_opP2_c e.2 with c | c | c
    · have a1 := yp_tk1 h 42 (by omega) ⟨e.1, c⟩
      have y := yp_c_lay gl hl (yp_N 1102)
      have c4 : yp_ctok (yp_opP2 (t (yp_sk t n z.1)), 0) = yp_N 1102 := by rw [c]; rfl
      rw [c4]
      simp (disch := omega) only [↓yp_lt1N, fX4_readProduct_b10, fX4_readProduct_j68, fX4_readProduct_j100, fX4_readProduct_j101, ↓yp_iP8, ↓yp_iP4, a1.1, g, y, Nat.reduceAdd, Nat.reduceMul, Nat.reduceSub, Nat.zero_add, Nat.add_zero, yp_LT, yp_nA, yp_nM, yp_ltF, yp_ltT, yp_leF, yp_leT, yp_eqF, eq_self, yp_eqM, yp_lt1N, yp_sbN, yp_sb2N, ↓reduceIte, ↓yp_iP11, ↓yp_iP12, ↓yp_m0P]
    · have a1 := yp_tk0 h 42 (by omega) (fun q => by omega)
      have a2 := yp_tk1 h 47 (by omega) ⟨e.1, c⟩
      have y := yp_c_lay gl hl (yp_N 1103)
      have c4 : yp_ctok (yp_opP2 (t (yp_sk t n z.1)), 0) = yp_N 1103 := by rw [c]; rfl
      rw [c4]
      simp (disch := omega) only [↓yp_lt1N, fX4_readProduct_b10, fX4_readProduct_j68, fX4_readProduct_j100, fX4_readProduct_j101, ↓yp_iP8, ↓yp_iP4, a1.1, a2.2, g, y, Nat.reduceAdd, Nat.reduceMul, Nat.reduceSub, Nat.zero_add, Nat.add_zero, yp_LT, yp_nA, yp_nM, yp_ltF, yp_ltT, yp_leF, yp_leT, yp_eqF, eq_self, yp_eqM, yp_lt1N, yp_sbN, yp_sb2N, ↓reduceIte, ↓yp_iP11, ↓yp_iP12, ↓yp_m0P]
    · have a1 := yp_tk0 h 42 (by omega) (fun q => by omega)
      have a2 := yp_tk0 h 47 (by omega) (fun q => by omega)
      have a3 := yp_tk1 h 37 (by omega) ⟨e.1, c⟩
      have y := yp_c_lay gl hl (yp_N 1104)
      have c4 : yp_ctok (yp_opP2 (t (yp_sk t n z.1)), 0) = yp_N 1104 := by rw [c]; rfl
      rw [c4]
      simp (disch := omega) only [↓yp_lt1N, fX4_readProduct_b10, fX4_readProduct_j68, fX4_readProduct_j100, fX4_readProduct_j101, ↓yp_iP8, ↓yp_iP4, a1.1, a2.2, a3.2, g, y, Nat.reduceAdd, Nat.reduceMul, Nat.reduceSub, Nat.zero_add, Nat.add_zero, yp_LT, yp_nA, yp_nM, yp_ltF, yp_ltT, yp_leF, yp_leT, yp_eqF, eq_self, yp_eqM, yp_lt1N, yp_sbN, yp_sb2N, ↓reduceIte, ↓yp_iP11, ↓yp_iP12, ↓yp_m0P]
  · have f0 := yp_m_fine0 h
    simp (disch := omega) only [↓yp_lt1N, fX12_readProduct_b4, fX12_readProduct_j38, fX12_readProduct_j66, hM, f0, Nat.reduceAdd, Nat.reduceMul, Nat.reduceSub, Nat.zero_add, Nat.add_zero, yp_LT, yp_nA, yp_nM, yp_ltF, yp_ltT, yp_leF, yp_leT, yp_eqF, eq_self, yp_eqM, yp_lt1N, yp_sbN, yp_sb2N, ↓reduceIte, ↓yp_iP11, ↓yp_iP12, ↓yp_m0P]
  · have f0 := yp_m_fine1 h.2.1
    obtain ⟨v, v1, v2, v3, v4⟩ := yp_hr0 h
    have yp_n1 : v ≠ 42 ∧ v ≠ 47 ∧ v ≠ 37 := by
      rcases v2 with ⟨q1, q2⟩ | ⟨q1, q2⟩
      · refine ⟨fun q => e ⟨q2, ?_⟩, fun q => e ⟨q2, ?_⟩, fun q => e ⟨q2, ?_⟩⟩ <;> (rw [← q1, q]; decide)
      · omega
    obtain ⟨yp_n1, yp_n2, n3⟩ := yp_n1
    simp (disch := omega) only [↓yp_lt1N, fX12_readProduct_b4, fX12_readProduct_j38, fX12_readProduct_j66, hM, f0, v3, v4, Nat.reduceAdd, Nat.reduceMul, Nat.reduceSub, Nat.zero_add, Nat.add_zero, yp_LT, yp_nA, yp_nM, yp_ltF, yp_ltT, yp_leF, yp_leT, yp_eqF, eq_self, yp_eqM, yp_lt1N, yp_sbN, yp_sb2N, ↓reduceIte, ↓yp_iP11, ↓yp_iP12, ↓yp_m0P]
  · have f0 := yp_m_fine1 h.2.1
    have hn6 := h.1.2.1
    obtain ⟨v, v1, v2, v3, v4⟩ := yp_hr0 h
    have ve : v = t (yp_sk t n z.1) := by
      rcases v2 with q | q
      · exact q.1
      · exact absurd e.1 q.2
    have c3 := (h.1.at (yp_sk_le (t := t) h.1.2.2.1)).1.2.1
    have q9 : up2 (yp_rAt B m (yp_sk t n z.1)) (B + 517) 4 (yp_N (yp_sk t n z.1 + 1)) = yp_rAt B m (yp_sk t n z.1 + 1) := yp_rAt2 _ _ _ _
    have g1 : fX12_readUnit_o (yp_SH B) Sm (B + 517) (yp_rAt B m (yp_sk t n z.1 + 1)) = some m1 := g1
    rcases yp_opP2_c e.2 with c | c | c
    · rw [ve, c] at v3 v4
      have c4 : yp_opP2 (t (yp_sk t n z.1)) = 4 := by rw [c]; rfl
      rw [c4] at g2
      simp (disch := omega) only [↓yp_lt1N, fX12_readProduct_b4, fX12_readProduct_j38, fX12_readProduct_j66, hM, f0, v3, v4, c3, q9, g1, g2, Nat.reduceAdd, Nat.reduceMul, Nat.reduceSub, Nat.zero_add, Nat.add_zero, yp_LT, yp_nA, yp_nM, yp_ltF, yp_ltT, yp_leF, yp_leT, yp_eqF, eq_self, yp_eqM, yp_lt1N, yp_sbN, yp_sb2N, ↓reduceIte, ↓yp_iP11, ↓yp_iP12, ↓yp_m0P]
    · rw [ve, c] at v3 v4
      have c4 : yp_opP2 (t (yp_sk t n z.1)) = 5 := by rw [c]; rfl
      rw [c4] at g2
      simp (disch := omega) only [↓yp_lt1N, fX12_readProduct_b4, fX12_readProduct_j38, fX12_readProduct_j66, hM, f0, v3, v4, c3, q9, g1, g2, Nat.reduceAdd, Nat.reduceMul, Nat.reduceSub, Nat.zero_add, Nat.add_zero, yp_LT, yp_nA, yp_nM, yp_ltF, yp_ltT, yp_leF, yp_leT, yp_eqF, eq_self, yp_eqM, yp_lt1N, yp_sbN, yp_sb2N, ↓reduceIte, ↓yp_iP11, ↓yp_iP12, ↓yp_m0P]
    · rw [ve, c] at v3 v4
      have c4 : yp_opP2 (t (yp_sk t n z.1)) = 8 := by rw [c]; rfl
      rw [c4] at g2
      simp (disch := omega) only [↓yp_lt1N, fX12_readProduct_b4, fX12_readProduct_j38, fX12_readProduct_j66, hM, f0, v3, v4, c3, q9, g1, g2, Nat.reduceAdd, Nat.reduceMul, Nat.reduceSub, Nat.zero_add, Nat.add_zero, yp_LT, yp_nA, yp_nM, yp_ltF, yp_ltT, yp_leF, yp_leT, yp_eqF, eq_self, yp_eqM, yp_lt1N, yp_sbN, yp_sb2N, ↓reduceIte, ↓yp_iP11, ↓yp_iP12, ↓yp_m0P]
  · rcases x with x | x
    · simp (disch := omega) only [↓yp_lt1N, fX4_readProduct_o, fX4_readProduct_j76, ↓yp_iP4, ↓yp_bdP h1, h2, Sum.elim, Nat.reduceAdd, Nat.reduceMul, Nat.reduceSub, Nat.zero_add, Nat.add_zero, yp_LT, yp_nA, yp_nM, yp_ltF, yp_ltT, yp_leF, yp_leT, yp_eqF, eq_self, yp_eqM, yp_lt1N, yp_sbN, yp_sb2N, ↓reduceIte, ↓yp_iP11, ↓yp_iP12, ↓yp_m0P]
    · simp (disch := omega) only [↓yp_lt1N, fX4_readProduct_o, fX4_readProduct_j108, ↓yp_iP4, ↓yp_bdP h1, h2, Sum.elim, Nat.reduceAdd, Nat.reduceMul, Nat.reduceSub, Nat.zero_add, Nat.add_zero, yp_LT, yp_nA, yp_nM, yp_ltF, yp_ltT, yp_leF, yp_leT, yp_eqF, eq_self, yp_eqM, yp_lt1N, yp_sbN, yp_sb2N, ↓reduceIte, ↓yp_iP11, ↓yp_iP12, ↓yp_m0P]
  · simp (disch := omega) only [fX12_readProduct_o, fX12_readProduct_j90, ↓yp_opP h1, h2, Nat.reduceAdd, Nat.reduceMul, Nat.reduceSub, Nat.zero_add, Nat.add_zero, yp_LT, yp_nA, yp_nM, yp_ltF, yp_ltT, yp_leF, yp_leT, yp_eqF, eq_self, yp_eqM, yp_lt1N, yp_sbN, yp_sb2N, ↓reduceIte, ↓yp_iP11, ↓yp_iP12, ↓yp_m0P]
set_option maxHeartbeats 1000000 in
theorem yp_K_sum {U : yp_LwT → Option yp_LwR} {Sc : Nat → Nat → Int32 → Mem → Option (Int32 × Mem)} {Sm : Nat → Mem → Option Mem} {o : Nat} (hn : n ≤ 150) (hU : yp_KU B t n o U (fun m => fX4_readProduct_o (yp_SH B) Sc (B + 14) (B + 1) (yp_N o) m) (fun m => fX12_readProduct_o (yp_SH B) Sm (B + 517) m)) : yp_KU B t n o (yp_chain t n U yp_opS2) (fun m => fX4_readSum_o (yp_SH B) Sc (B + 14) (B + 1) (yp_N o) m) (fun m => fX12_readSum_o (yp_SH B) Sm (B + 517) m) := by
  have hM := yp_mS B
  refine yp_K_chain (cs := fun st : Int32 × Int32 × Mem => fX4_readSum_b10 (yp_SH B) Sc (B + 14) (B + 1) (yp_N o) st.1 st.2.1 st.2.2) (ms := fun st : Mem => fX12_readSum_b4 (yp_SH B) Sm (B + 517) st) hn yp_opS2_r hU (fun i m hi => ?_) (fun i m z hi h e => ?_) (fun i m z hi h e m1 => ⟨fun g => ?_, fun l g gl hl => ?_⟩) (fun m h => ?_) (fun m z h e => ?_) (fun m z h e m1 m2 g1 g2 => ?_) (fun m v m1 x h1 h2 => ?_) (fun m m1 x h1 h2 => ?_)
  · simp (disch := omega) only [↓yp_lt1N, fX4_readSum_b10, fX4_readSum_j53, fX4_readSum_j85, fX4_readSum_j86, ↓yp_iP8, ↓yp_iP4, Nat.reduceAdd, Nat.reduceMul, Nat.reduceSub, Nat.zero_add, Nat.add_zero, yp_LT, yp_nA, yp_nM, yp_ltF, yp_ltT, yp_leF, yp_leT, yp_eqF, eq_self, yp_eqM, yp_lt1N, yp_sbN, yp_sb2N, ↓reduceIte, ↓yp_iP11, ↓yp_iP12, ↓yp_m0P]
  · have a1 := yp_tk0 h 43 (by omega) (fun q => e ⟨q.1, by rw [q.2]; decide⟩)
    have a2 := yp_tk0 h 45 (by omega) (fun q => e ⟨q.1, by rw [q.2]; decide⟩)
    simp (disch := omega) only [↓yp_lt1N, fX4_readSum_b10, fX4_readSum_j53, fX4_readSum_j85, fX4_readSum_j86, ↓yp_iP8, ↓yp_iP4, a1.1, a2.2, Nat.reduceAdd, Nat.reduceMul, Nat.reduceSub, Nat.zero_add, Nat.add_zero, yp_LT, yp_nA, yp_nM, yp_ltF, yp_ltT, yp_leF, yp_leT, yp_eqF, eq_self, yp_eqM, yp_lt1N, yp_sbN, yp_sb2N, ↓reduceIte, ↓yp_iP11, ↓yp_iP12, ↓yp_m0P]
  · have g : fX4_readProduct_o (yp_SH B) Sc (B + 14) (B + 1) (yp_N o) (yp_cAt B m (yp_sk t n z.1 + 1)) = some (yp_N 0, m1) := g
    rcases yp_opS2_c e.2 with c | c
    · have a1 := yp_tk1 h 43 (by omega) ⟨e.1, c⟩
      simp (disch := omega) only [↓yp_lt1N, fX4_readSum_b10, fX4_readSum_j53, fX4_readSum_j85, fX4_readSum_j86, ↓yp_iP8, ↓yp_iP4, a1.1, g, Nat.reduceAdd, Nat.reduceMul, Nat.reduceSub, Nat.zero_add, Nat.add_zero, yp_LT, yp_nA, yp_nM, yp_ltF, yp_ltT, yp_leF, yp_leT, yp_eqF, eq_self, yp_eqM, yp_lt1N, yp_sbN, yp_sb2N, ↓reduceIte, ↓yp_iP11, ↓yp_iP12, ↓yp_m0P]
    · have a1 := yp_tk0 h 43 (by omega) (fun q => by omega)
      have a2 := yp_tk1 h 45 (by omega) ⟨e.1, c⟩
      simp (disch := omega) only [↓yp_lt1N, fX4_readSum_b10, fX4_readSum_j53, fX4_readSum_j85, fX4_readSum_j86, ↓yp_iP8, ↓yp_iP4, a1.1, a2.2, g, Nat.reduceAdd, Nat.reduceMul, Nat.reduceSub, Nat.zero_add, Nat.add_zero, yp_LT, yp_nA, yp_nM, yp_ltF, yp_ltT, yp_leF, yp_leT, yp_eqF, eq_self, yp_eqM, yp_lt1N, yp_sbN, yp_sb2N, ↓reduceIte, ↓yp_iP11, ↓yp_iP12, ↓yp_m0P]
  · have g : fX4_readProduct_o (yp_SH B) Sc (B + 14) (B + 1) (yp_N o) (yp_cAt B m (yp_sk t n z.1 + 1)) = some (yp_N 1, m1) := g
    rcases yp_opS2_c e.2 with c | c
    · have a1 := yp_tk1 h 43 (by omega) ⟨e.1, c⟩
      have y := yp_c_lay gl hl (yp_N 1100)
      have c4 : yp_ctok (yp_opS2 (t (yp_sk t n z.1)), 0) = yp_N 1100 := by rw [c]; rfl
      rw [c4]
      simp (disch := omega) only [↓yp_lt1N, fX4_readSum_b10, fX4_readSum_j53, fX4_readSum_j85, fX4_readSum_j86, ↓yp_iP8, ↓yp_iP4, a1.1, g, y, Nat.reduceAdd, Nat.reduceMul, Nat.reduceSub, Nat.zero_add, Nat.add_zero, yp_LT, yp_nA, yp_nM, yp_ltF, yp_ltT, yp_leF, yp_leT, yp_eqF, eq_self, yp_eqM, yp_lt1N, yp_sbN, yp_sb2N, ↓reduceIte, ↓yp_iP11, ↓yp_iP12, ↓yp_m0P]
    · have a1 := yp_tk0 h 43 (by omega) (fun q => by omega)
      have a2 := yp_tk1 h 45 (by omega) ⟨e.1, c⟩
      have y := yp_c_lay gl hl (yp_N 1101)
      have c4 : yp_ctok (yp_opS2 (t (yp_sk t n z.1)), 0) = yp_N 1101 := by rw [c]; rfl
      rw [c4]
      simp (disch := omega) only [↓yp_lt1N, fX4_readSum_b10, fX4_readSum_j53, fX4_readSum_j85, fX4_readSum_j86, ↓yp_iP8, ↓yp_iP4, a1.1, a2.2, g, y, Nat.reduceAdd, Nat.reduceMul, Nat.reduceSub, Nat.zero_add, Nat.add_zero, yp_LT, yp_nA, yp_nM, yp_ltF, yp_ltT, yp_leF, yp_leT, yp_eqF, eq_self, yp_eqM, yp_lt1N, yp_sbN, yp_sb2N, ↓reduceIte, ↓yp_iP11, ↓yp_iP12, ↓yp_m0P]
  · have f0 := yp_m_fine0 h
    simp (disch := omega) only [↓yp_lt1N, fX12_readSum_b4, fX12_readSum_j29, fX12_readSum_j43, hM, f0, Nat.reduceAdd, Nat.reduceMul, Nat.reduceSub, Nat.zero_add, Nat.add_zero, yp_LT, yp_nA, yp_nM, yp_ltF, yp_ltT, yp_leF, yp_leT, yp_eqF, eq_self, yp_eqM, yp_lt1N, yp_sbN, yp_sb2N, ↓reduceIte, ↓yp_iP11, ↓yp_iP12, ↓yp_m0P]
  · have f0 := yp_m_fine1 h.2.1
    obtain ⟨v, v1, v2, v3, v4⟩ := yp_hr0 h
    have yp_n1 : v ≠ 43 ∧ v ≠ 45 := by
      rcases v2 with ⟨q1, q2⟩ | ⟨q1, q2⟩
      · refine ⟨fun q => e ⟨q2, ?_⟩, fun q => e ⟨q2, ?_⟩⟩ <;> (rw [← q1, q]; decide)
      · omega
    obtain ⟨yp_n1, yp_n2⟩ := yp_n1
    simp (disch := omega) only [↓yp_lt1N, fX12_readSum_b4, fX12_readSum_j29, fX12_readSum_j43, hM, f0, v3, v4, Nat.reduceAdd, Nat.reduceMul, Nat.reduceSub, Nat.zero_add, Nat.add_zero, yp_LT, yp_nA, yp_nM, yp_ltF, yp_ltT, yp_leF, yp_leT, yp_eqF, eq_self, yp_eqM, yp_lt1N, yp_sbN, yp_sb2N, ↓reduceIte, ↓yp_iP11, ↓yp_iP12, ↓yp_m0P]
  · have f0 := yp_m_fine1 h.2.1
    have hn6 := h.1.2.1
    obtain ⟨v, v1, v2, v3, v4⟩ := yp_hr0 h
    have ve : v = t (yp_sk t n z.1) := by
      rcases v2 with q | q
      · exact q.1
      · exact absurd e.1 q.2
    have c3 := (h.1.at (yp_sk_le (t := t) h.1.2.2.1)).1.2.1
    have q9 : up2 (yp_rAt B m (yp_sk t n z.1)) (B + 517) 4 (yp_N (yp_sk t n z.1 + 1)) = yp_rAt B m (yp_sk t n z.1 + 1) := yp_rAt2 _ _ _ _
    have g1 : fX12_readProduct_o (yp_SH B) Sm (B + 517) (yp_rAt B m (yp_sk t n z.1 + 1)) = some m1 := g1
    rcases yp_opS2_c e.2 with c | c
    · rw [ve, c] at v3 v4
      have c4 : yp_opS2 (t (yp_sk t n z.1)) = 2 := by rw [c]; rfl
      rw [c4] at g2
      simp (disch := omega) only [↓yp_lt1N, fX12_readSum_b4, fX12_readSum_j29, fX12_readSum_j43, hM, f0, v3, v4, c3, q9, g1, g2, Nat.reduceAdd, Nat.reduceMul, Nat.reduceSub, Nat.zero_add, Nat.add_zero, yp_LT, yp_nA, yp_nM, yp_ltF, yp_ltT, yp_leF, yp_leT, yp_eqF, eq_self, yp_eqM, yp_lt1N, yp_sbN, yp_sb2N, ↓reduceIte, ↓yp_iP11, ↓yp_iP12, ↓yp_m0P]
    · rw [ve, c] at v3 v4
      have c4 : yp_opS2 (t (yp_sk t n z.1)) = 3 := by rw [c]; rfl
      rw [c4] at g2
      simp (disch := omega) only [↓yp_lt1N, fX12_readSum_b4, fX12_readSum_j29, fX12_readSum_j43, hM, f0, v3, v4, c3, q9, g1, g2, Nat.reduceAdd, Nat.reduceMul, Nat.reduceSub, Nat.zero_add, Nat.add_zero, yp_LT, yp_nA, yp_nM, yp_ltF, yp_ltT, yp_leF, yp_leT, yp_eqF, eq_self, yp_eqM, yp_lt1N, yp_sbN, yp_sb2N, ↓reduceIte, ↓yp_iP11, ↓yp_iP12, ↓yp_m0P]
  · rcases x with x | x
    · simp (disch := omega) only [↓yp_lt1N, fX4_readSum_o, fX4_readSum_j61, ↓yp_iP4, ↓yp_bdP h1, h2, Sum.elim, Nat.reduceAdd, Nat.reduceMul, Nat.reduceSub, Nat.zero_add, Nat.add_zero, yp_LT, yp_nA, yp_nM, yp_ltF, yp_ltT, yp_leF, yp_leT, yp_eqF, eq_self, yp_eqM, yp_lt1N, yp_sbN, yp_sb2N, ↓reduceIte, ↓yp_iP11, ↓yp_iP12, ↓yp_m0P]
    · simp (disch := omega) only [↓yp_lt1N, fX4_readSum_o, fX4_readSum_j93, ↓yp_iP4, ↓yp_bdP h1, h2, Sum.elim, Nat.reduceAdd, Nat.reduceMul, Nat.reduceSub, Nat.zero_add, Nat.add_zero, yp_LT, yp_nA, yp_nM, yp_ltF, yp_ltT, yp_leF, yp_leT, yp_eqF, eq_self, yp_eqM, yp_lt1N, yp_sbN, yp_sb2N, ↓reduceIte, ↓yp_iP11, ↓yp_iP12, ↓yp_m0P]
  · simp (disch := omega) only [fX12_readSum_o, fX12_readSum_j67, ↓yp_opP h1, h2, Nat.reduceAdd, Nat.reduceMul, Nat.reduceSub, Nat.zero_add, Nat.add_zero, yp_LT, yp_nA, yp_nM, yp_ltF, yp_ltT, yp_leF, yp_leT, yp_eqF, eq_self, yp_eqM, yp_lt1N, yp_sbN, yp_sb2N, ↓reduceIte, ↓yp_iP11, ↓yp_iP12, ↓yp_m0P]
def yp_lawP (t : Nat → Nat) (n : Nat) : Nat → yp_LwT → Option yp_LwR
  | 0 => yp_chain t n (yp_chain t n (yp_unitO t n 0 (fun _ => none)) yp_opP2) yp_opS2
  | d + 1 => yp_chain t n (yp_chain t n (yp_unitO t n (d + 1) (yp_lawP t n d)) yp_opP2) yp_opS2
set_option maxHeartbeats 1000000 in
theorem yp_sum_x {m : Mem} (h : ¬ m (B + 517) 5 = -yp_N 1) (k : Nat) : fX12_readSum (yp_SH B) (k + 1) (B + 517) m = some m := by
  have f0 := yp_m_fine0 h
  have hM := yp_mS B
  have e1 := yp_unit_x (Sm := fX12_readSum (yp_SH B) k) h
  have e2 : loopN (fun st : Mem => fX12_readProduct_b4 (yp_SH B) (fX12_readSum (yp_SH B) k) (B + 517) st) FU m = some m := yp_lpXx (by simp (disch := omega) only [↓yp_lt1N, fX12_readProduct_b4, fX12_readProduct_j38, fX12_readProduct_j66, hM, f0, Nat.reduceAdd, Nat.reduceMul, Nat.reduceSub, Nat.zero_add, Nat.add_zero, yp_LT, yp_nA, yp_nM, yp_ltF, yp_ltT, yp_leF, yp_leT, yp_eqF, eq_self, yp_eqM, yp_lt1N, yp_sbN, yp_sb2N, ↓reduceIte, ↓yp_iP11, ↓yp_iP12, ↓yp_m0P])
  have e3 : fX12_readProduct_o (yp_SH B) (fX12_readSum (yp_SH B) k) (B + 517) m = some m := by simp (disch := omega) only [fX12_readProduct_o, fX12_readProduct_j90, ↓yp_opP e1, e2, Nat.reduceAdd, Nat.reduceMul, Nat.reduceSub, Nat.zero_add, Nat.add_zero, yp_LT, yp_nA, yp_nM, yp_ltF, yp_ltT, yp_leF, yp_leT, yp_eqF, eq_self, yp_eqM, yp_lt1N, yp_sbN, yp_sb2N, ↓reduceIte, ↓yp_iP11, ↓yp_iP12, ↓yp_m0P]
  have e4 : loopN (fun st : Mem => fX12_readSum_b4 (yp_SH B) (fX12_readSum (yp_SH B) k) (B + 517) st) FU m = some m := yp_lpXx (by simp (disch := omega) only [↓yp_lt1N, fX12_readSum_b4, fX12_readSum_j29, fX12_readSum_j43, hM, f0, Nat.reduceAdd, Nat.reduceMul, Nat.reduceSub, Nat.zero_add, Nat.add_zero, yp_LT, yp_nA, yp_nM, yp_ltF, yp_ltT, yp_leF, yp_leT, yp_eqF, eq_self, yp_eqM, yp_lt1N, yp_sbN, yp_sb2N, ↓reduceIte, ↓yp_iP11, ↓yp_iP12, ↓yp_m0P])
  show fX12_readSum_o (yp_SH B) (fX12_readSum (yp_SH B) k) (B + 517) m = some m
  simp (disch := omega) only [fX12_readSum_o, fX12_readSum_j67, ↓yp_opP e3, e4, Nat.reduceAdd, Nat.reduceMul, Nat.reduceSub, Nat.zero_add, Nat.add_zero, yp_LT, yp_nA, yp_nM, yp_ltF, yp_ltT, yp_leF, yp_leT, yp_eqF, eq_self, yp_eqM, yp_lt1N, yp_sbN, yp_sb2N, ↓reduceIte, ↓yp_iP11, ↓yp_iP12, ↓yp_m0P]
set_option maxHeartbeats 1000000 in
theorem yp_K_law (hn : n ≤ 150) : ∀ d o fu fv, o + d = 6 → d < fu → d + 1 < fv → yp_KU B t n o (yp_lawP t n d) (fun m => fX4_readSum (yp_SH B) fu (B + 14) (B + 1) (yp_N o) m) (fun m => fX12_readSum (yp_SH B) fv (B + 517) m) := by
  intro d
  induction d with
  | zero =>
    intro o fu fv h1 h2 h3
    obtain ⟨fu, rfl⟩ : ∃ k, fu = k + 1 := ⟨fu - 1, by omega⟩
    obtain ⟨fv, rfl⟩ : ∃ k, fv = k + 1 + 1 := ⟨fv - 2, by omega⟩
    exact yp_K_sum hn (yp_K_prod hn (yp_K_unit (S := fun _ => none) (Sc := fX4_readSum (yp_SH B) fu) (Sm := fX12_readSum (yp_SH B) (fv + 1)) hn h1 (fun q => absurd rfl q) (fun m h => yp_sum_x h fv)))
  | succ d ih =>
    intro o fu fv h1 h2 h3
    obtain ⟨fu, rfl⟩ : ∃ k, fu = k + 1 := ⟨fu - 1, by omega⟩
    obtain ⟨fv, rfl⟩ : ∃ k, fv = k + 1 + 1 := ⟨fv - 2, by omega⟩
    exact yp_K_sum hn (yp_K_prod hn (yp_K_unit (S := yp_lawP t n d) (Sc := fX4_readSum (yp_SH B) fu) (Sm := fX12_readSum (yp_SH B) (fv + 1)) hn h1 (fun _ => ih (o + 1) fu (fv + 1) (by omega) (by omega) (by omega)) (fun m h => yp_sum_x h fv)))
end CHAIN

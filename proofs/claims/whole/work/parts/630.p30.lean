set_option maxHeartbeats 1000000 in
theorem yp_smLN {α β : Type} (v : α) (f : α → Option β) (g : Nat → Option β) : sme (.inl v) f g = f v := Eq.trans (Eq.refl _) (Eq.refl _)
set_option maxHeartbeats 1000000 in
theorem yp_smRN {α β : Type} (k : Nat) (f : α → Option β) (g : Nat → Option β) : sme (.inr k) f g = g k := Eq.trans (Eq.refl _) (Eq.refl _)
section SPAN
variable {B : Nat} {mm : Mem} {A : yp_St}
noncomputable def yp_spK (A : yp_St) (s : Int32) (q n i : Nat) : Nat → Int32 := (yp_fo (fun _ st => yp_tmG (yp_sQ A) q st) n (yp_sH A, s + yp_N i)).1
noncomputable def yp_spV (A : yp_St) (s : Int32) (q n i : Nat) : Int32 := yp_sm (fun k => yp_spK A s q n i (0 + k)) 42
noncomputable def yp_spS (A : yp_St) (s : Int32) (q n f i : Nat) (a : Int32 × Int32 × Int32) : Int32 × Int32 × Int32 := (mnI a.1 (yp_spV A s q n i), mxI a.2.1 (yp_spV A s q n i), a.2.2 + (if yp_W (yp_spK A s q n i) f ≤ yp_N 0 then yp_N 0 else yp_N 1))
set_option maxHeartbeats 1000000 in
theorem yp_spK_I (hI : yp_INV A) (s : Int32) (q n i : Nat) : yp_HI (yp_sQ A) (yp_spK A s q n i) := by
  unfold yp_spK
  have : ∀ k, yp_HI (yp_sQ A) (yp_fo (fun _ st => yp_tmG (yp_sQ A) q st) k (yp_sH A, s + yp_N i)).1 := by
    intro k
    induction k with
    | zero => exact hI.2.1
    | succ k ih =>
      rw [yp_fo_s]
      exact yp_HI.tmG hI.1 q _ ih
  exact this n
set_option maxHeartbeats 1000000 in
theorem yp_spV_r (hI : yp_INV A) (s : Int32) (q n i : Nat) : 0 ≤ (yp_spV A s q n i).toInt ∧ (yp_spV A s q n i).toInt ≤ 1680 := by
  have h := (yp_spK_I hI s q n i).sm 0 (.inl rfl) 0 42 (by omega)
  have e : yp_spV A s q n i = yp_sm (fun k => yp_spK A s q n i (0 + (0 + k))) 42 := by
    unfold yp_spV
    exact yp_sm_congr (fun k hk => by rw [Nat.zero_add, Nat.zero_add])
  rw [e, h.1]
  exact h.2
set_option maxHeartbeats 1000000 in
theorem yp_spL_r (hI : yp_INV A) (s : Int32) (q n f : Nat) : ∀ k, 0 ≤ (yp_fo (yp_spS A s q n f) k (yp_N 1680, yp_N 0, yp_N 0)).1.toInt ∧ (yp_fo (yp_spS A s q n f) k (yp_N 1680, yp_N 0, yp_N 0)).1.toInt ≤ 1680 := by
  intro k
  induction k with
  | zero =>
    show 0 ≤ (yp_N 1680).toInt ∧ (yp_N 1680).toInt ≤ 1680
    rw [yp_tiN (by omega)]; omega
  | succ k ih =>
    rw [yp_fo_s]
    have h := yp_spV_r hI s q n k
    generalize yp_fo (yp_spS A s q n f) k (yp_N 1680, yp_N 0, yp_N 0) = x at ih
    simp only [yp_spS, yp_mnTi]
    split <;> omega
set_option maxHeartbeats 1000000 in
theorem yp_fells (hR : yp_RCc B mm A) (hI : yp_INV A) (x : Int32) : (∃ k, k < yp_qf (yp_sQ A) ∧ x = yp_N k ∧ fX11_isFellow (yp_SH B) B (yp_N k) mm = some (yp_N 1)) ∨ ((x < yp_N 0 ∨ yp_N (yp_qf (yp_sQ A)) ≤ x) ∧ fX11_isFellow (yp_SH B) B x mm = some (yp_N 0)) := by
  have hA := yp_clsS B
  have e := hR.1.1
  have hq := hI.1.1
  rcases yp_rng x 2147483647 (by omega) with ⟨k, hk, rfl⟩ | h | h
  · by_cases h7 : k < yp_qf (yp_sQ A)
    · refine .inl ⟨k, h7, rfl, ?_⟩
      simp (disch := omega) only [fX11_isFellow_j20, fX11_isFellow_j19, fX11_isFellow, hA, e, yp_ck1, Nat.reduceAdd, Nat.reduceMul, Nat.reduceSub, Nat.zero_add, Nat.add_zero, yp_LT, yp_nA, yp_nM, yp_ltF, yp_ltT, yp_leF, yp_leT, yp_eqF, eq_self, yp_eqM, yp_lt1N, yp_sbN, yp_sb2N, ↓reduceIte, ↓yp_iP11, ↓yp_iP12, ↓yp_m0P]
    · refine .inr ⟨.inr (by rw [yp_leN (by omega) (by omega)]; omega), ?_⟩
      simp (disch := omega) only [fX11_isFellow_j20, fX11_isFellow_j19, fX11_isFellow, hA, e, yp_ck0, Nat.reduceAdd, Nat.reduceMul, Nat.reduceSub, Nat.zero_add, Nat.add_zero, yp_LT, yp_nA, yp_nM, yp_ltF, yp_ltT, yp_leF, yp_leT, yp_eqF, eq_self, yp_eqM, yp_lt1N, yp_sbN, yp_sb2N, ↓reduceIte, ↓yp_iP11, ↓yp_iP12, ↓yp_m0P]
  · refine .inr ⟨.inl h.1, ?_⟩
    simp (disch := omega) only [fX11_isFellow_j20, fX11_isFellow_j19, fX11_isFellow, hA, yp_ck0, h.1, Nat.reduceAdd, Nat.reduceMul, Nat.reduceSub, Nat.zero_add, Nat.add_zero, yp_LT, yp_nA, yp_nM, yp_ltF, yp_ltT, yp_leF, yp_leT, yp_eqF, eq_self, yp_eqM, yp_lt1N, yp_sbN, yp_sb2N, ↓reduceIte, ↓yp_iP11, ↓yp_iP12, ↓yp_m0P]
  · exfalso
    have h1 := h.2
    rw [yp_ltTi, yp_tiN (by omega)] at h1
    have := Int32.toInt_lt x
    omega
set_option maxHeartbeats 1000000 in
theorem yp_c_spanL (hR : yp_RCc B mm A) (hI : yp_INV A) (s : Int32) (k2 q n k5 f : Nat) (g2 : k2 ≤ 10) (hq16 : q ≤ 16) (hn48 : n ≤ 48) (hf6 : f < 6) : ∃ r, loopN (fun st : Int32 × Int32 × Int32 × Int32 × Mem => fX11_span_b64 (yp_SH B) B s (yp_N k2) (yp_N q) (yp_N n) (yp_N k5) (yp_N f) st.1 st.2.1 st.2.2.1 st.2.2.2.1 st.2.2.2.2) FU (yp_N 1680, yp_N 0, yp_N 0, yp_N 0, mm) = some r ∧ (r.1, r.2.1, r.2.2.1) = yp_fo (yp_spS A s q n f) k2 (yp_N 1680, yp_N 0, yp_N 0) ∧ yp_Fr (yp_TT B) mm r.2.2.2 := by
  have hA := yp_clsS B
  have hT := yp_trmS B
  have hX := yp_HSx (yp_hs511 B)
  obtain ⟨r, h1, h2, h3⟩ := yp_lpI (step := fun st : Int32 × Int32 × Int32 × Int32 × Mem => fX11_span_b64 (yp_SH B) B s (yp_N k2) (yp_N q) (yp_N n) (yp_N k5) (yp_N f) st.1 st.2.1 st.2.2.1 st.2.2.2.1 st.2.2.2.2) (fun k st => ∃ m, st = ((yp_fo (yp_spS A s q n f) k (yp_N 1680, yp_N 0, yp_N 0)).1, (yp_fo (yp_spS A s q n f) k (yp_N 1680, yp_N 0, yp_N 0)).2.1, (yp_fo (yp_spS A s q n f) k (yp_N 1680, yp_N 0, yp_N 0)).2.2, yp_N k, m) ∧ yp_Fr (yp_TT B) mm m) (fun r => (r.1, r.2.1, r.2.2.1) = yp_fo (yp_spS A s q n f) k2 (yp_N 1680, yp_N 0, yp_N 0) ∧ yp_Fr (yp_TT B) mm r.2.2.2) k2 (fun k st hk hJ => by
    obtain ⟨m, rfl, hF⟩ := hJ
    by_cases e : k = k2
    · subst e
      exact .inr ⟨((yp_fo (yp_spS A s q n f) k (yp_N 1680, yp_N 0, yp_N 0)).1, (yp_fo (yp_spS A s q n f) k (yp_N 1680, yp_N 0, yp_N 0)).2.1, (yp_fo (yp_spS A s q n f) k (yp_N 1680, yp_N 0, yp_N 0)).2.2, m), by simp (disch := omega) only [fX11_span_b64, Nat.reduceAdd, Nat.reduceMul, Nat.reduceSub, Nat.zero_add, Nat.add_zero, yp_LT, yp_nA, yp_nM, yp_ltF, yp_ltT, yp_leF, yp_leT, yp_eqF, eq_self, yp_eqM, yp_lt1N, yp_sbN, yp_sb2N, ↓reduceIte, ↓yp_iP11, ↓yp_iP12, ↓yp_m0P], rfl, hF⟩
    · have hC1 : yp_CLc B m (yp_sQ A) := hR.1.fr (fun a j h => hF a j (by unfold yp_TT; omega))
      have hH1 : yp_HC m (B + 33) (yp_sH A) := hR.2.1.same (fun a j p1 p2 => hF a j (by unfold yp_TT; omega))
      obtain ⟨m1, e1, e2, e3⟩ := yp_c_run hI.1 hC1 hH1 (s + yp_N k) q n hq16 hn48
      have e2 : yp_HC m1 (B + 511) (yp_spK A s q n k) := e2
      have e4 := yp_row42 (B := B) (m := m1) (x := B + 511) (d := 1) (o := 0) (H := yp_spK A s q n k) 42 (by omega) (yp_hs511 B).2.1 (fun k hk => by rw [Nat.zero_add]; exact e2.1 k hk)
      have e4 : fX11_sum (yp_SH B) (B + 511 + 1) (yp_N 0) (yp_N 42) m1 = some (yp_spV A s q n k) := e4
      have e5 := yp_h_all (yp_hs511 B) e2 f hf6
      refine .inl ⟨by omega, ((yp_fo (yp_spS A s q n f) (k + 1) (yp_N 1680, yp_N 0, yp_N 0)).1, (yp_fo (yp_spS A s q n f) (k + 1) (yp_N 1680, yp_N 0, yp_N 0)).2.1, (yp_fo (yp_spS A s q n f) (k + 1) (yp_N 1680, yp_N 0, yp_N 0)).2.2, yp_N (k + 1), m1), ?_, m1, rfl, hF.tr e3⟩
      rw [yp_fo_s]
      generalize yp_fo (yp_spS A s q n f) k (yp_N 1680, yp_N 0, yp_N 0) = z
      by_cases e6 : yp_W (yp_spK A s q n k) f ≤ yp_N 0
      · simp (disch := omega) only [fX11_span_b64, fX11_span_j146, hA, hT, hX, e1, e4, e5, yp_spS, e6, Nat.reduceAdd, Nat.reduceMul, Nat.reduceSub, Nat.zero_add, Nat.add_zero, yp_LT, yp_nA, yp_nM, yp_ltF, yp_ltT, yp_leF, yp_leT, yp_eqF, eq_self, yp_eqM, yp_lt1N, yp_sbN, yp_sb2N, ↓reduceIte, ↓yp_iP11, ↓yp_iP12, ↓yp_m0P]
      · simp (disch := omega) only [fX11_span_b64, fX11_span_j146, hA, hT, hX, e1, e4, e5, yp_spS, e6, Nat.reduceAdd, Nat.reduceMul, Nat.reduceSub, Nat.zero_add, Nat.add_zero, yp_LT, yp_nA, yp_nM, yp_ltF, yp_ltT, yp_leF, yp_leT, yp_eqF, eq_self, yp_eqM, yp_lt1N, yp_sbN, yp_sb2N, ↓reduceIte, ↓yp_iP11, ↓yp_iP12, ↓yp_m0P]) (show k2 < FU by rw [yp_FUe]; omega) (s0 := (yp_N 1680, yp_N 0, yp_N 0, yp_N 0, mm)) ⟨mm, rfl, yp_Fr.rf⟩
  exact ⟨r, h1, h2, h3⟩
set_option maxHeartbeats 1000000 in
theorem yp_m_spanL {m : Mem} (hm : yp_RMm B m A) (hI : yp_INV A) (s : Int32) (k2 q n k5 f : Nat) (i2 : 1 ≤ k2) (g2 : k2 ≤ 10) (hq16 : q ≤ 16) (hn48 : n ≤ 48) (hf6 : f < 6) : ∃ m', loopN (fun st : Int32 × Int32 × Int32 × Int32 × Mem => fX12_span_b77 (yp_SH B) (B + 517) s (yp_N k2) (yp_N q) (yp_N n) (yp_N k5) (yp_N f) st.1 st.2.1 st.2.2.1 st.2.2.2.1 st.2.2.2.2) FU (-yp_N 1, yp_N 0, yp_N 0, yp_N 0, yp_m0 B m) = some ((yp_fo (yp_spS A s q n f) k2 (yp_N 1680, yp_N 0, yp_N 0)).1, (yp_fo (yp_spS A s q n f) k2 (yp_N 1680, yp_N 0, yp_N 0)).2.1, (yp_fo (yp_spS A s q n f) k2 (yp_N 1680, yp_N 0, yp_N 0)).2.2, m') ∧ yp_FM B m m' := by
  have hM := yp_mS B
  have hm0 := yp_m0R hm
  obtain ⟨r, k1, m', rfl, k3⟩ := yp_lpI (step := fun st : Int32 × Int32 × Int32 × Int32 × Mem => fX12_span_b77 (yp_SH B) (B + 517) s (yp_N k2) (yp_N q) (yp_N n) (yp_N k5) (yp_N f) st.1 st.2.1 st.2.2.1 st.2.2.2.1 st.2.2.2.2) (fun k st => ∃ m', st = (if k = 0 then -yp_N 1 else (yp_fo (yp_spS A s q n f) k (yp_N 1680, yp_N 0, yp_N 0)).1, (yp_fo (yp_spS A s q n f) k (yp_N 1680, yp_N 0, yp_N 0)).2.1, (yp_fo (yp_spS A s q n f) k (yp_N 1680, yp_N 0, yp_N 0)).2.2, yp_N k, m') ∧ yp_Fr (yp_TU B) (yp_m0 B m) m') (fun r => ∃ m', r = ((yp_fo (yp_spS A s q n f) k2 (yp_N 1680, yp_N 0, yp_N 0)).1, (yp_fo (yp_spS A s q n f) k2 (yp_N 1680, yp_N 0, yp_N 0)).2.1, (yp_fo (yp_spS A s q n f) k2 (yp_N 1680, yp_N 0, yp_N 0)).2.2, m') ∧ yp_Fr (yp_TU B) (yp_m0 B m) m') k2 (fun k st hk hJ => by
    obtain ⟨m1, rfl, hF⟩ := hJ
    by_cases e : k = k2
    · subst e
      refine .inr ⟨((yp_fo (yp_spS A s q n f) k (yp_N 1680, yp_N 0, yp_N 0)).1, (yp_fo (yp_spS A s q n f) k (yp_N 1680, yp_N 0, yp_N 0)).2.1, (yp_fo (yp_spS A s q n f) k (yp_N 1680, yp_N 0, yp_N 0)).2.2, m1), ?_, m1, rfl, hF⟩
      have e0 : ¬ k = 0 := by omega
      simp (disch := omega) only [fX12_span_b77, e0, Nat.reduceAdd, Nat.reduceMul, Nat.reduceSub, Nat.zero_add, Nat.add_zero, yp_LT, yp_nA, yp_nM, yp_ltF, yp_ltT, yp_leF, yp_leT, yp_eqF, eq_self, yp_eqM, yp_lt1N, yp_sbN, yp_sb2N, ↓reduceIte, ↓yp_iP11, ↓yp_iP12, ↓yp_m0P]
    · have hC1 : yp_CLm B m1 (yp_sQ A) := hm0.1.fr (fun a j h => hF a j (by unfold yp_TU; omega))
      have hN1 : yp_HM m1 (B + 532) (yp_sH A) := hm0.2.1.same (fun j => hF _ j (by unfold yp_TU; omega))
      obtain ⟨m2, e1, e2, e2', e3⟩ := yp_m_run hI.1 hC1 hI.2.1 hN1 (s + yp_N k) q n hq16 hn48
      have e2 : yp_HM m2 (B + 533) (yp_spK A s q n k) := e2
      have e4 : fX12_sumOf (yp_SH B) (B + 517) (yp_N 0) (yp_N 42) m2 = some (yp_spV A s q n k) := yp_m_sum e2 0 42 (by omega)
      have e5 := yp_m_within e2 f hf6
      refine .inl ⟨by omega, ((yp_fo (yp_spS A s q n f) (k + 1) (yp_N 1680, yp_N 0, yp_N 0)).1, (yp_fo (yp_spS A s q n f) (k + 1) (yp_N 1680, yp_N 0, yp_N 0)).2.1, (yp_fo (yp_spS A s q n f) (k + 1) (yp_N 1680, yp_N 0, yp_N 0)).2.2, yp_N (k + 1), m2), ?_, m2, by rw [if_neg (by omega)], hF.tr e3⟩
      have hr := yp_spL_r hI s q n f k
      have hv := yp_spV_r hI s q n k
      rw [yp_fo_s]
      have hz0 : k = 0 → yp_fo (yp_spS A s q n f) k (yp_N 1680, yp_N 0, yp_N 0) = (yp_N 1680, yp_N 0, yp_N 0) := fun h => by rw [h]; rfl
      generalize yp_fo (yp_spS A s q n f) k (yp_N 1680, yp_N 0, yp_N 0) = z at hr hz0
      generalize hvv : yp_spV A s q n k = v at hv e4
      have sE : yp_spS A s q n f k z = (mnI z.1 v, mxI z.2.1 v, z.2.2 + (if yp_W (yp_spK A s q n k) f ≤ yp_N 0 then yp_N 0 else yp_N 1)) := by unfold yp_spS; rw [hvv]
      rw [sE]
      have fin : ∀ a, a = mnI z.1 v → fX12_span_j123 (yp_SH B) (B + 517) s (yp_N k2) (yp_N q) (yp_N n) (yp_N k5) (yp_N f) z.2.1 z.2.2 (yp_N k) v a m2 = some (.inl (mnI z.1 v, mxI z.2.1 v, z.2.2 + (if yp_W (yp_spK A s q n k) f ≤ yp_N 0 then yp_N 0 else yp_N 1), yp_N (k + 1), m2)) := fun a ha => by
        subst ha
        by_cases e6 : yp_W (yp_spK A s q n k) f ≤ yp_N 0
        · by_cases e7 : v ≤ z.2.1
          · have e8 : mxI z.2.1 v = z.2.1 := by unfold mxI; rw [if_neg (Int32.not_lt.mpr e7)]
            simp (disch := omega) only [fX12_span_j123, fX12_span_j139, fX12_span_j157, hM, e5, e6, e7, e8, Nat.reduceAdd, Nat.reduceMul, Nat.reduceSub, Nat.zero_add, Nat.add_zero, yp_LT, yp_nA, yp_nM, yp_ltF, yp_ltT, yp_leF, yp_leT, yp_eqF, eq_self, yp_eqM, yp_lt1N, yp_sbN, yp_sb2N, ↓reduceIte, ↓yp_iP11, ↓yp_iP12, ↓yp_m0P]
          · have e8 : mxI z.2.1 v = v := by unfold mxI; rw [if_pos (Int32.not_le.mp e7)]
            simp (disch := omega) only [fX12_span_j123, fX12_span_j139, fX12_span_j157, hM, e5, e6, e7, e8, Nat.reduceAdd, Nat.reduceMul, Nat.reduceSub, Nat.zero_add, Nat.add_zero, yp_LT, yp_nA, yp_nM, yp_ltF, yp_ltT, yp_leF, yp_leT, yp_eqF, eq_self, yp_eqM, yp_lt1N, yp_sbN, yp_sb2N, ↓reduceIte, ↓yp_iP11, ↓yp_iP12, ↓yp_m0P]
        · by_cases e7 : v ≤ z.2.1
          · have e8 : mxI z.2.1 v = z.2.1 := by unfold mxI; rw [if_neg (Int32.not_lt.mpr e7)]
            simp (disch := omega) only [fX12_span_j123, fX12_span_j139, fX12_span_j157, hM, e5, e6, e7, e8, Nat.reduceAdd, Nat.reduceMul, Nat.reduceSub, Nat.zero_add, Nat.add_zero, yp_LT, yp_nA, yp_nM, yp_ltF, yp_ltT, yp_leF, yp_leT, yp_eqF, eq_self, yp_eqM, yp_lt1N, yp_sbN, yp_sb2N, ↓reduceIte, ↓yp_iP11, ↓yp_iP12, ↓yp_m0P]
          · have e8 : mxI z.2.1 v = v := by unfold mxI; rw [if_pos (Int32.not_le.mp e7)]
            simp (disch := omega) only [fX12_span_j123, fX12_span_j139, fX12_span_j157, hM, e5, e6, e7, e8, Nat.reduceAdd, Nat.reduceMul, Nat.reduceSub, Nat.zero_add, Nat.add_zero, yp_LT, yp_nA, yp_nM, yp_ltF, yp_ltT, yp_leF, yp_leT, yp_eqF, eq_self, yp_eqM, yp_lt1N, yp_sbN, yp_sb2N, ↓reduceIte, ↓yp_iP11, ↓yp_iP12, ↓yp_m0P]
      by_cases k0 : k = 0
      · have hz := hz0 k0
        have g1 := fin v (by
          rw [hz, yp_eqTi, yp_mnTi, yp_tiN (by omega)]
          split <;> omega)
        have e0 : (if k = 0 then -yp_N 1 else z.1) = -yp_N 1 := if_pos k0
        simp (disch := omega) only [fX12_span_b77, fX12_span_j116, hM, e1, e4, e0, g1, Nat.reduceAdd, Nat.reduceMul, Nat.reduceSub, Nat.zero_add, Nat.add_zero, yp_LT, yp_nA, yp_nM, yp_ltF, yp_ltT, yp_leF, yp_leT, yp_eqF, eq_self, yp_eqM, yp_lt1N, yp_sbN, yp_sb2N, ↓reduceIte, ↓yp_iP11, ↓yp_iP12, ↓yp_m0P]
      · have yp_n1 : (z.1 = -yp_N 1) = False := eq_false (fun h => by
          rw [h, yp_tiM] at hr
          omega)
        by_cases e7 : z.1 ≤ v
        · have g1 := fin z.1 (by unfold mnI; rw [if_neg (Int32.not_lt.mpr e7)])
          simp (disch := omega) only [fX12_span_b77, fX12_span_j116, hM, e1, e4, (if_neg k0 : (if k = 0 then -yp_N 1 else z.1) = z.1), yp_n1, e7, g1, Nat.reduceAdd, Nat.reduceMul, Nat.reduceSub, Nat.zero_add, Nat.add_zero, yp_LT, yp_nA, yp_nM, yp_ltF, yp_ltT, yp_leF, yp_leT, yp_eqF, eq_self, yp_eqM, yp_lt1N, yp_sbN, yp_sb2N, ↓reduceIte, ↓yp_iP11, ↓yp_iP12, ↓yp_m0P]
        · have g1 := fin v (by unfold mnI; rw [if_pos (Int32.not_le.mp e7)])
          simp (disch := omega) only [fX12_span_b77, fX12_span_j116, hM, e1, e4, (if_neg k0 : (if k = 0 then -yp_N 1 else z.1) = z.1), yp_n1, e7, g1, Nat.reduceAdd, Nat.reduceMul, Nat.reduceSub, Nat.zero_add, Nat.add_zero, yp_LT, yp_nA, yp_nM, yp_ltF, yp_ltT, yp_leF, yp_leT, yp_eqF, eq_self, yp_eqM, yp_lt1N, yp_sbN, yp_sb2N, ↓reduceIte, ↓yp_iP11, ↓yp_iP12, ↓yp_m0P]) (show k2 < FU by rw [yp_FUe]; omega) (s0 := (-yp_N 1, yp_N 0, yp_N 0, yp_N 0, yp_m0 B m)) ⟨yp_m0 B m, rfl, yp_Fr.rf⟩
  exact ⟨m', k1, yp_FM.tu k3⟩
set_option maxHeartbeats 1000000 in
theorem yp_p_spanG (hR : yp_RCc B mm A) (hI : yp_INV A) (s : Int32) (k2 q n k5 f : Nat) (i2 : 1 ≤ k2) (g2 : k2 ≤ 10) (hq16 : q ≤ 16) (hn48 : n ≤ 48) (g5 : k5 ≤ 2) (hf : f < yp_qf (yp_sQ A)) (q1 : fX11_isTerm (yp_N q) (yp_N n) = some (yp_N 1)) (q2 : fX12_isTerm (yp_N q) (yp_N n) = some (yp_N 1)) (q3 : fX11_isFellow (yp_SH B) B (yp_N f) mm = some (yp_N 1)) : yp_PM B (fX11_span (yp_SH B) B s (yp_N k2) (yp_N q) (yp_N n) (yp_N k5) (yp_N f) mm) (fun m => fX12_span (yp_SH B) (B + 517) s (yp_N k2) (yp_N q) (yp_N n) (yp_N k5) (yp_N f) m) hcI mm A := by
  have hA := yp_clsS B
  have hM := yp_mS B
  have hn := @yp_nd1 B mm
  have hq := hI.1.1
  have hf6 : f < 6 := by omega
  obtain ⟨r, h1, h2, h3⟩ := yp_c_spanL hR hI s k2 q n k5 f g2 hq16 hn48 hf6
  obtain ⟨r1, r2, r3, rm⟩ := r
  have goR : ∀ m, yp_RMm B m A → ∃ m', loopN (fun st : Int32 × Int32 × Int32 × Int32 × Mem => fX12_span_b77 (yp_SH B) (B + 517) s (yp_N k2) (yp_N q) (yp_N n) (yp_N k5) (yp_N f) st.1 st.2.1 st.2.2.1 st.2.2.2.1 st.2.2.2.2) FU (-yp_N 1, yp_N 0, yp_N 0, yp_N 0, yp_m0 B m) = some ((yp_fo (yp_spS A s q n f) k2 (yp_N 1680, yp_N 0, yp_N 0)).1, (yp_fo (yp_spS A s q n f) k2 (yp_N 1680, yp_N 0, yp_N 0)).2.1, (yp_fo (yp_spS A s q n f) k2 (yp_N 1680, yp_N 0, yp_N 0)).2.2, m') ∧ yp_FM B m m' := fun m hm => by
    exact yp_m_spanL hm hI s k2 q n k5 f i2 g2 hq16 hn48 hf6
  rw [← h2] at goR
  simp only at goR h3
  have e := fun m (hm : yp_RMm B m A) => (yp_m0R hm).1.1
  have wc : (yp_N (yp_qf (yp_sQ A)) - yp_N 1 < yp_N f) = False := by rw [yp_nS (by omega)]; exact yp_ltF (by omega) (by omega)
  have : k5 = 0 ∨ k5 = 1 ∨ k5 = 2 := by omega
  rcases this with rfl | rfl | rfl
  · refine yp_PM_v hR hI (v := r1) (m1 := rm) ?_ (yp_FC.tt h3) (fun m hm => ?_)
    · simp (disch := omega) only [fX11_span_j178, fX11_span_j155, fX11_span_j146, fX11_span_j37, fX11_span_j36, fX11_span, hA, ↓yp_opP q1, ↓hn, ↓yp_opP q3, ↓yp_smLN, ↓yp_smRN, h1, Nat.reduceAdd, Nat.reduceMul, Nat.reduceSub, Nat.zero_add, Nat.add_zero, yp_LT, yp_nA, yp_nM, yp_ltF, yp_ltT, yp_leF, yp_leT, yp_eqF, eq_self, yp_eqM, yp_lt1N, yp_sbN, yp_sb2N, ↓reduceIte, ↓yp_iP11, ↓yp_iP12, ↓yp_m0P]
    · obtain ⟨m', g1, g2⟩ := goR m hm
      exact ⟨m', by simp (disch := omega) only [fX12_span_j189, fX12_span_j166, fX12_span_j157, fX12_span_j139, fX12_span_j123, fX12_span_j116, fX12_span_j55, fX12_span_j54, fX12_span, hM, yp_m0e, ↓yp_opP q2, e m hm, wc, yp_m_wiG, yp_mayG, g1, Nat.reduceAdd, Nat.reduceMul, Nat.reduceSub, Nat.zero_add, Nat.add_zero, yp_LT, yp_nA, yp_nM, yp_ltF, yp_ltT, yp_leF, yp_leT, yp_eqF, eq_self, yp_eqM, yp_lt1N, yp_sbN, yp_sb2N, ↓reduceIte, ↓yp_iP11, ↓yp_iP12, ↓yp_m0P], g2⟩
  · refine yp_PM_v hR hI (v := r2) (m1 := rm) ?_ (yp_FC.tt h3) (fun m hm => ?_)
    · simp (disch := omega) only [fX11_span_j178, fX11_span_j155, fX11_span_j146, fX11_span_j37, fX11_span_j36, fX11_span, hA, ↓yp_opP q1, ↓hn, ↓yp_opP q3, ↓yp_smLN, ↓yp_smRN, h1, Nat.reduceAdd, Nat.reduceMul, Nat.reduceSub, Nat.zero_add, Nat.add_zero, yp_LT, yp_nA, yp_nM, yp_ltF, yp_ltT, yp_leF, yp_leT, yp_eqF, eq_self, yp_eqM, yp_lt1N, yp_sbN, yp_sb2N, ↓reduceIte, ↓yp_iP11, ↓yp_iP12, ↓yp_m0P]
    · obtain ⟨m', g1, g2⟩ := goR m hm
      exact ⟨m', by simp (disch := omega) only [fX12_span_j189, fX12_span_j166, fX12_span_j157, fX12_span_j139, fX12_span_j123, fX12_span_j116, fX12_span_j55, fX12_span_j54, fX12_span, hM, yp_m0e, ↓yp_opP q2, e m hm, wc, yp_m_wiG, yp_mayG, g1, Nat.reduceAdd, Nat.reduceMul, Nat.reduceSub, Nat.zero_add, Nat.add_zero, yp_LT, yp_nA, yp_nM, yp_ltF, yp_ltT, yp_leF, yp_leT, yp_eqF, eq_self, yp_eqM, yp_lt1N, yp_sbN, yp_sb2N, ↓reduceIte, ↓yp_iP11, ↓yp_iP12, ↓yp_m0P], g2⟩
  · refine yp_PM_v hR hI (v := r3) (m1 := rm) ?_ (yp_FC.tt h3) (fun m hm => ?_)
    · simp (disch := omega) only [fX11_span_j178, fX11_span_j155, fX11_span_j146, fX11_span_j37, fX11_span_j36, fX11_span, hA, ↓yp_opP q1, ↓hn, ↓yp_opP q3, ↓yp_smLN, ↓yp_smRN, h1, Nat.reduceAdd, Nat.reduceMul, Nat.reduceSub, Nat.zero_add, Nat.add_zero, yp_LT, yp_nA, yp_nM, yp_ltF, yp_ltT, yp_leF, yp_leT, yp_eqF, eq_self, yp_eqM, yp_lt1N, yp_sbN, yp_sb2N, ↓reduceIte, ↓yp_iP11, ↓yp_iP12, ↓yp_m0P]
    · obtain ⟨m', g1, g2⟩ := goR m hm
      exact ⟨m', by simp (disch := omega) only [fX12_span_j189, fX12_span_j166, fX12_span_j157, fX12_span_j139, fX12_span_j123, fX12_span_j116, fX12_span_j55, fX12_span_j54, fX12_span, hM, yp_m0e, ↓yp_opP q2, e m hm, wc, yp_m_wiG, yp_mayG, g1, Nat.reduceAdd, Nat.reduceMul, Nat.reduceSub, Nat.zero_add, Nat.add_zero, yp_LT, yp_nA, yp_nM, yp_ltF, yp_ltT, yp_leF, yp_leT, yp_eqF, eq_self, yp_eqM, yp_lt1N, yp_sbN, yp_sb2N, ↓reduceIte, ↓yp_iP11, ↓yp_iP12, ↓yp_m0P], g2⟩
set_option maxHeartbeats 1000000 in
theorem yp_p_span (hR : yp_RCc B mm A) (hI : yp_INV A) (s x2 x3 x4 x5 x6 : Int32) : yp_PM B (fX11_span (yp_SH B) B s x2 x3 x4 x5 x6 mm) (fun m => fX12_span (yp_SH B) (B + 517) s x2 x3 x4 x5 x6 m) hcI mm A := by
  have hA := yp_clsS B
  have hT := yp_trmS B
  have hX := yp_HSx (yp_hs511 B)
  have hM := yp_mS B
  have hn := @yp_nd1 B mm
  have h0 := @yp_nd0 B mm A hR
  have hq := hI.1.1
  rcases yp_rngG x2 1 10 (by omega) (by omega) with ⟨k2, i2, g2, rfl⟩ | h | h
  rotate_left
  · exact yp_PM_e1 hR hI (by simp (disch := omega) only [fX11_span_j178, fX11_span_j155, fX11_span_j146, fX11_span_j37, fX11_span_j36, fX11_span, hA, ↓h0, h, ↓yp_smLN, ↓yp_smRN, Nat.reduceAdd, Nat.reduceMul, Nat.reduceSub, Nat.zero_add, Nat.add_zero, yp_LT, yp_nA, yp_nM, yp_ltF, yp_ltT, yp_leF, yp_leT, yp_eqF, eq_self, yp_eqM, yp_lt1N, yp_sbN, yp_sb2N, ↓reduceIte, ↓yp_iP11, ↓yp_iP12, ↓yp_m0P]) (fun m hm => by simp (disch := omega) only [fX12_span_j189, fX12_span_j166, fX12_span_j157, fX12_span_j139, fX12_span_j123, fX12_span_j116, fX12_span_j55, fX12_span_j54, fX12_span, hM, yp_m0e, ↓yp_wiP, h, yp_may11, Nat.reduceAdd, Nat.reduceMul, Nat.reduceSub, Nat.zero_add, Nat.add_zero, yp_LT, yp_nA, yp_nM, yp_ltF, yp_ltT, yp_leF, yp_leT, yp_eqF, eq_self, yp_eqM, yp_lt1N, yp_sbN, yp_sb2N, ↓reduceIte, ↓yp_iP11, ↓yp_iP12, ↓yp_m0P]) rfl yp_n1
  · exact yp_PM_e1 hR hI (by simp (disch := omega) only [fX11_span_j178, fX11_span_j155, fX11_span_j146, fX11_span_j37, fX11_span_j36, fX11_span, hA, ↓h0, h, ↓yp_smLN, ↓yp_smRN, Nat.reduceAdd, Nat.reduceMul, Nat.reduceSub, Nat.zero_add, Nat.add_zero, yp_LT, yp_nA, yp_nM, yp_ltF, yp_ltT, yp_leF, yp_leT, yp_eqF, eq_self, yp_eqM, yp_lt1N, yp_sbN, yp_sb2N, ↓reduceIte, ↓yp_iP11, ↓yp_iP12, ↓yp_m0P]) (fun m hm => by simp (disch := omega) only [fX12_span_j189, fX12_span_j166, fX12_span_j157, fX12_span_j139, fX12_span_j123, fX12_span_j116, fX12_span_j55, fX12_span_j54, fX12_span, hM, yp_m0e, ↓yp_wiP, h, yp_may11, Nat.reduceAdd, Nat.reduceMul, Nat.reduceSub, Nat.zero_add, Nat.add_zero, yp_LT, yp_nA, yp_nM, yp_ltF, yp_ltT, yp_leF, yp_leT, yp_eqF, eq_self, yp_eqM, yp_lt1N, yp_sbN, yp_sb2N, ↓reduceIte, ↓yp_iP11, ↓yp_iP12, ↓yp_m0P]) rfl yp_n1
  rcases yp_tmR x3 x4 with ⟨q, n, hq16, hn1, hn48, rfl, rfl, q1, q2⟩ | ⟨q1, q2⟩
  rotate_left
  · exact yp_PM_e1 hR hI (by simp (disch := omega) only [fX11_span_j178, fX11_span_j155, fX11_span_j146, fX11_span_j37, fX11_span_j36, fX11_span, hA, ↓yp_opP q1, ↓h0, ↓yp_smLN, ↓yp_smRN, Nat.reduceAdd, Nat.reduceMul, Nat.reduceSub, Nat.zero_add, Nat.add_zero, yp_LT, yp_nA, yp_nM, yp_ltF, yp_ltT, yp_leF, yp_leT, yp_eqF, eq_self, yp_eqM, yp_lt1N, yp_sbN, yp_sb2N, ↓reduceIte, ↓yp_iP11, ↓yp_iP12, ↓yp_m0P]) (fun m hm => by simp (disch := omega) only [fX12_span_j189, fX12_span_j166, fX12_span_j157, fX12_span_j139, fX12_span_j123, fX12_span_j116, fX12_span_j55, fX12_span_j54, fX12_span, hM, yp_m0e, ↓yp_opP q2, ↓yp_wiP, yp_may11, Nat.reduceAdd, Nat.reduceMul, Nat.reduceSub, Nat.zero_add, Nat.add_zero, yp_LT, yp_nA, yp_nM, yp_ltF, yp_ltT, yp_leF, yp_leT, yp_eqF, eq_self, yp_eqM, yp_lt1N, yp_sbN, yp_sb2N, ↓reduceIte, ↓yp_iP11, ↓yp_iP12, ↓yp_m0P]) rfl yp_n1
  rcases yp_rngG x5 0 2 (by omega) (by omega) with ⟨k5, _, g5, rfl⟩ | h | h
  rotate_left
  · exact yp_PM_e1 hR hI (by simp (disch := omega) only [fX11_span_j178, fX11_span_j155, fX11_span_j146, fX11_span_j37, fX11_span_j36, fX11_span, hA, ↓yp_opP q1, ↓h0, h, ↓yp_smLN, ↓yp_smRN, Nat.reduceAdd, Nat.reduceMul, Nat.reduceSub, Nat.zero_add, Nat.add_zero, yp_LT, yp_nA, yp_nM, yp_ltF, yp_ltT, yp_leF, yp_leT, yp_eqF, eq_self, yp_eqM, yp_lt1N, yp_sbN, yp_sb2N, ↓reduceIte, ↓yp_iP11, ↓yp_iP12, ↓yp_m0P]) (fun m hm => by simp (disch := omega) only [fX12_span_j189, fX12_span_j166, fX12_span_j157, fX12_span_j139, fX12_span_j123, fX12_span_j116, fX12_span_j55, fX12_span_j54, fX12_span, hM, yp_m0e, ↓yp_opP q2, ↓yp_wiP, h, yp_may11, Nat.reduceAdd, Nat.reduceMul, Nat.reduceSub, Nat.zero_add, Nat.add_zero, yp_LT, yp_nA, yp_nM, yp_ltF, yp_ltT, yp_leF, yp_leT, yp_eqF, eq_self, yp_eqM, yp_lt1N, yp_sbN, yp_sb2N, ↓reduceIte, ↓yp_iP11, ↓yp_iP12, ↓yp_m0P]) rfl yp_n1
  · exact yp_PM_e1 hR hI (by simp (disch := omega) only [fX11_span_j178, fX11_span_j155, fX11_span_j146, fX11_span_j37, fX11_span_j36, fX11_span, hA, ↓yp_opP q1, ↓h0, h, ↓yp_smLN, ↓yp_smRN, Nat.reduceAdd, Nat.reduceMul, Nat.reduceSub, Nat.zero_add, Nat.add_zero, yp_LT, yp_nA, yp_nM, yp_ltF, yp_ltT, yp_leF, yp_leT, yp_eqF, eq_self, yp_eqM, yp_lt1N, yp_sbN, yp_sb2N, ↓reduceIte, ↓yp_iP11, ↓yp_iP12, ↓yp_m0P]) (fun m hm => by simp (disch := omega) only [fX12_span_j189, fX12_span_j166, fX12_span_j157, fX12_span_j139, fX12_span_j123, fX12_span_j116, fX12_span_j55, fX12_span_j54, fX12_span, hM, yp_m0e, ↓yp_opP q2, ↓yp_wiP, h, yp_may11, Nat.reduceAdd, Nat.reduceMul, Nat.reduceSub, Nat.zero_add, Nat.add_zero, yp_LT, yp_nA, yp_nM, yp_ltF, yp_ltT, yp_leF, yp_leT, yp_eqF, eq_self, yp_eqM, yp_lt1N, yp_sbN, yp_sb2N, ↓reduceIte, ↓yp_iP11, ↓yp_iP12, ↓yp_m0P]) rfl yp_n1
  rcases yp_fells hR hI x6 with ⟨f, hf, rfl, q3⟩ | ⟨hb, q3⟩
  rotate_left
  · refine yp_PM_e1 hR hI (by simp (disch := omega) only [fX11_span_j178, fX11_span_j155, fX11_span_j146, fX11_span_j37, fX11_span_j36, fX11_span, hA, ↓yp_opP q1, ↓hn, ↓yp_opP q3, ↓h0, ↓yp_smLN, ↓yp_smRN, Nat.reduceAdd, Nat.reduceMul, Nat.reduceSub, Nat.zero_add, Nat.add_zero, yp_LT, yp_nA, yp_nM, yp_ltF, yp_ltT, yp_leF, yp_leT, yp_eqF, eq_self, yp_eqM, yp_lt1N, yp_sbN, yp_sb2N, ↓reduceIte, ↓yp_iP11, ↓yp_iP12, ↓yp_m0P]) (fun m hm => ?_) rfl yp_n1
    have e := (yp_m0R hm).1.1
    have e2 := yp_wi_bad (by omega) hb
    have e3 := Option.some.inj ((yp_m_wiG _ _ _).symm.trans e2)
    simp (disch := omega) only [fX12_span_j189, fX12_span_j166, fX12_span_j157, fX12_span_j139, fX12_span_j123, fX12_span_j116, fX12_span_j55, fX12_span_j54, fX12_span, hM, yp_m0e, ↓yp_opP q2, ↓yp_wiP, e, e3, yp_may11, Nat.reduceAdd, Nat.reduceMul, Nat.reduceSub, Nat.zero_add, Nat.add_zero, yp_LT, yp_nA, yp_nM, yp_ltF, yp_ltT, yp_leF, yp_leT, yp_eqF, eq_self, yp_eqM, yp_lt1N, yp_sbN, yp_sb2N, ↓reduceIte, ↓yp_iP11, ↓yp_iP12, ↓yp_m0P]
  exact yp_p_spanG hR hI s k2 q n k5 f i2 g2 hq16 hn48 g5 hf q1 q2 q3
end SPAN

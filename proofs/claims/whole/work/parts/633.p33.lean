section FITS3
variable {B : Nat} {mm : Mem} {A : yp_St}
set_option maxHeartbeats 1000000 in
theorem yp_refU (B : Nat) : rR (yp_SH B) 12 (B + 517) 41 = some (B + 537) ∧ rR (yp_SH B) 12 (B + 517) 43 = some (B + 538) ∧ rR (yp_SH B) 12 (B + 517) 44 = some (B + 539) ∧ rR (yp_SH B) 12 (B + 517) 46 = some (B + 540) ∧ (∀ mm k, k < 16 → aL (yp_SH B) mm (B + 537) (yp_N k) = some (mm (B + 537) k)) ∧ (∀ mm k, k < 48 → aL (yp_SH B) mm (B + 538) (yp_N k) = some (mm (B + 538) k)) ∧ (∀ mm k v, k < 48 → aS (yp_SH B) mm (B + 538) (yp_N k) v = some (up2 mm (B + 538) k v)) ∧ (∀ mm k, k < 48 → aL (yp_SH B) mm (B + 539) (yp_N k) = some (mm (B + 539) k)) ∧ (∀ mm k v, k < 48 → aS (yp_SH B) mm (B + 539) (yp_N k) v = some (up2 mm (B + 539) k v)) ∧ (∀ mm k, k < 4752 → aL (yp_SH B) mm (B + 540) (yp_N k) = some (mm (B + 540) k)) ∧ (∀ mm k v, k < 4752 → aS (yp_SH B) mm (B + 540) (yp_N k) v = some (up2 mm (B + 540) k v)) := by
  refine ⟨?_, ?_, ?_, ?_, fun mm k h => yp_aLN (yp_sa537 B) mm k h (by omega), fun mm k h => yp_aLN (yp_sa538 B) mm k h (by omega), fun mm k v h => yp_aSN (yp_sa538 B) mm k v h (by omega), fun mm k h => yp_aLN (yp_sa539 B) mm k h (by omega), fun mm k v h => yp_aSN (yp_sa539 B) mm k v h (by omega), fun mm k h => yp_aLN (yp_sa540 B) mm k h (by omega), fun mm k v h => yp_aSN (yp_sa540 B) mm k v h (by omega)⟩
  · rw [rR, yp_so517]; rfl
  · rw [rR, yp_so517]; rfl
  · rw [rR, yp_so517]; rfl
  · rw [rR, yp_so517]; rfl
def yp_MK (B : Nat) (m : Mem) (s : yp_Prs) : Prop := m (B + 517) 45 = yp_N s.1 ∧ ∀ i, i < s.1 → m (B + 538) i = yp_N (s.2 i).1 ∧ m (B + 539) i = yp_N (s.2 i).2
def yp_TW (B : Nat) : Nat → Nat → Prop := fun a j => a = B + 528 ∨ a = B + 529 ∨ a = B + 535 ∨ a = B + 533 ∨ a = B + 538 ∨ a = B + 539 ∨ a = B + 540 ∨ (a = B + 517 ∧ j = 45)
set_option maxHeartbeats 1000000 in
theorem yp_m_pairs {m : Mem} (hI : yp_INV A) (hC : yp_CLm B m (yp_sQ A)) (hN : yp_HM m (B + 532) (yp_sH A)) (f g : Nat) (hf : f < 6) (hg : g < yp_qg (yp_sQ A)) : ∃ m1 m2 v, fX12_take (yp_SH B) (B + 517) m = some m1 ∧ fX12_isParted (yp_SH B) (B + 517) (yp_N f) (yp_N g) m1 = some (v, m2) ∧ yp_HM m2 (B + 533) (yp_pH (yp_sQ A) (yp_sH A) f g) ∧ yp_Fr (yp_TQ B) m m1 ∧ yp_Fr (yp_TQ B) m m2 := by
  obtain ⟨m1, a1, a2, a3⟩ := yp_m_take hN
  have f1 : yp_Fr (yp_TQ B) m m1 := a3.mono (fun a j h => by unfold yp_FS at h; unfold yp_TQ; omega)
  have hC1 : yp_CLm B m1 (yp_sQ A) := hC.fr (fun a j h => f1 a j (by unfold yp_TQ; omega))
  rcases yp_m_parted hI.1 hC1 a2 hI.2.1.nn0 f g hf hg with ⟨h1, h2⟩ | ⟨h1, m2, h2, h3, h4⟩
  · exact ⟨m1, m1, _, a1, h2, by rw [yp_pH0 h1]; exact a2, f1, f1⟩
  · exact ⟨m1, m2, _, a1, h2, by rw [yp_pH1 h1]; exact h3, f1, f1.tr h4⟩
set_option maxHeartbeats 1000000 in
theorem yp_m_right {m : Mem} (hI : yp_INV A) (hL : m (B + 517) 42 = yp_N (yp_sL A)) (hp : ∀ i, i < yp_sL A → m (B + 537) (2 * i) = yp_sLp A i) (hm : ∀ i, i < yp_sL A → m (B + 537) (2 * i + 1) = yp_sLm A i) (f g : Nat) (hK : yp_HM m (B + 533) (yp_pH (yp_sQ A) (yp_sH A) f g)) : (yp_okR A f g ∧ loopN (fun st : Int32 × Int32 => fX12_laysFits_b52 (yp_SH B) (B + 517) (yp_N f) (yp_N g) st.1 st.2 m) FU (yp_N 1, yp_N 0) = some (yp_N 1)) ∨ (¬ yp_okR A f g ∧ loopN (fun st : Int32 × Int32 => fX12_laysFits_b52 (yp_SH B) (B + 517) (yp_N f) (yp_N g) st.1 st.2 m) FU (yp_N 1, yp_N 0) = some (yp_N 0)) := by
  have hM := yp_mS B
  have hU := yp_refU B
  have i8 := hI.2.2.2.2.1.1
  obtain ⟨x, h1, h2⟩ := yp_lpI (step := fun st : Int32 × Int32 => fX12_laysFits_b52 (yp_SH B) (B + 517) (yp_N f) (yp_N g) st.1 st.2 m) (fun k st => (st = (yp_N 1, yp_N k) ∧ ∀ i, i < k → yp_rowV A (f, g) (yp_sLp A i) = yp_sLm A i) ∨ (st = (yp_N 0, yp_N k) ∧ ¬ yp_okR A f g)) (fun x => (yp_okR A f g ∧ x = yp_N 1) ∨ (¬ yp_okR A f g ∧ x = yp_N 0)) (yp_sL A) (fun k st hk hJ => by
    by_cases e : k = yp_sL A
    · subst e
      rcases hJ with ⟨rfl, hJ⟩ | ⟨rfl, hJ⟩
      · exact .inr ⟨yp_N 1, by simp (disch := omega) only [fX12_laysFits_b52, hM, hL, Nat.reduceAdd, Nat.reduceMul, Nat.reduceSub, Nat.zero_add, Nat.add_zero, yp_LT, yp_nA, yp_nM, yp_ltF, yp_ltT, yp_leF, yp_leT, yp_eqF, eq_self, yp_eqM, yp_lt1N, yp_sbN, yp_sb2N, ↓reduceIte, ↓yp_iP11, ↓yp_iP12, ↓yp_m0P], .inl ⟨hJ, rfl⟩⟩
      · exact .inr ⟨yp_N 0, by simp (disch := omega) only [fX12_laysFits_b52, hM, hL, Nat.reduceAdd, Nat.reduceMul, Nat.reduceSub, Nat.zero_add, Nat.add_zero, yp_LT, yp_nA, yp_nM, yp_ltF, yp_ltT, yp_leF, yp_leT, yp_eqF, eq_self, yp_eqM, yp_lt1N, yp_sbN, yp_sb2N, ↓reduceIte, ↓yp_iP11, ↓yp_iP12, ↓yp_m0P], .inr ⟨hJ, rfl⟩⟩
    · rcases hJ with ⟨rfl, hJ⟩ | ⟨rfl, hJ⟩
      · have e1 := hp k (by omega)
        have e2 := hm k (by omega)
        have e3 : fX12_atPlace (yp_SH B) (B + 517) (yp_sLp A k) m = some (yp_rowV A (f, g) (yp_sLp A k)) := yp_m_atp hK (yp_sLp A k)
        by_cases c : yp_rowV A (f, g) (yp_sLp A k) = yp_sLm A k
        · refine .inl ⟨by omega, (yp_N 1, yp_N (k + 1)), ?_, .inl ⟨rfl, fun i hi => ?_⟩⟩
          · rw [c] at e3
            simp (disch := omega) only [fX12_laysFits_b52, fX12_laysFits_j97, fX12_laysFits_j96, hM, hU, hL, e1, e2, e3, Nat.reduceAdd, Nat.reduceMul, Nat.reduceSub, Nat.zero_add, Nat.add_zero, yp_LT, yp_nA, yp_nM, yp_ltF, yp_ltT, yp_leF, yp_leT, yp_eqF, eq_self, yp_eqM, yp_lt1N, yp_sbN, yp_sb2N, ↓reduceIte, ↓yp_iP11, ↓yp_iP12, ↓yp_m0P]
          · by_cases e10 : i = k
            · rw [e10]; exact c
            · exact hJ i (by omega)
        · refine .inl ⟨by omega, (yp_N 0, yp_N (k + 1)), ?_, .inr ⟨rfl, fun h => c (h k (by omega))⟩⟩
          simp (disch := omega) only [fX12_laysFits_b52, fX12_laysFits_j97, fX12_laysFits_j96, hM, hU, hL, e1, e2, e3, c, Nat.reduceAdd, Nat.reduceMul, Nat.reduceSub, Nat.zero_add, Nat.add_zero, yp_LT, yp_nA, yp_nM, yp_ltF, yp_ltT, yp_leF, yp_leT, yp_eqF, eq_self, yp_eqM, yp_lt1N, yp_sbN, yp_sb2N, ↓reduceIte, ↓yp_iP11, ↓yp_iP12, ↓yp_m0P]
      · refine .inl ⟨by omega, (yp_N 0, yp_N (k + 1)), ?_, .inr ⟨rfl, hJ⟩⟩
        simp (disch := omega) only [fX12_laysFits_b52, fX12_laysFits_j97, fX12_laysFits_j96, hM, hU, hL, Nat.reduceAdd, Nat.reduceMul, Nat.reduceSub, Nat.zero_add, Nat.add_zero, yp_LT, yp_nA, yp_nM, yp_ltF, yp_ltT, yp_leF, yp_leT, yp_eqF, eq_self, yp_eqM, yp_lt1N, yp_sbN, yp_sb2N, ↓reduceIte, ↓yp_iP11, ↓yp_iP12, ↓yp_m0P]) (show yp_sL A < FU by rw [yp_FUe]; omega) (s0 := (yp_N 1, yp_N 0)) (.inl ⟨rfl, fun i hi => absurd hi (Nat.not_lt_zero i)⟩)
  rcases h2 with ⟨h2, rfl⟩ | ⟨h2, rfl⟩
  · exact .inl ⟨h2, h1⟩
  · exact .inr ⟨h2, h1⟩
set_option maxHeartbeats 1000000 in
theorem yp_m_lays1 {m m' : Mem} {s : yp_Prs} {n : Nat} (hR : yp_RMm B m A) (hI : yp_INV A) (hT : yp_Fr (yp_TW B) m m') (hF : yp_MK B m' s) (hO : yp_prO A n s) (hn : n + 8 ≤ 48) (f : Nat) (hf : f < yp_qf (yp_sQ A)) : ∃ m2, loopN (fun st : Int32 × Mem => fX12_laysFits_b17 (yp_SH B) (B + 517) (yp_N f) st.1 st.2) FU (yp_N 0, m') = some m2 ∧ yp_MK B m2 (yp_ftF A f s) ∧ yp_prO A (n + 8) (yp_ftF A f s) ∧ yp_Fr (yp_TW B) m m2 := by
  have hM := yp_mS B
  have hU := yp_refU B
  have hq := hI.1.1
  have hq2 := hI.1.2.1
  obtain ⟨m2, h1, h2, h3, h4⟩ := yp_lpI (step := fun st : Int32 × Mem => fX12_laysFits_b17 (yp_SH B) (B + 517) (yp_N f) st.1 st.2) (fun k st => ∃ m1, st = (yp_N k, m1) ∧ yp_MK B m1 (yp_fo (yp_ftG A f) k s) ∧ yp_prO A (n + k) (yp_fo (yp_ftG A f) k s) ∧ yp_Fr (yp_TW B) m m1) (fun m1 => yp_MK B m1 (yp_fo (yp_ftG A f) (yp_qg (yp_sQ A)) s) ∧ yp_prO A (n + 8) (yp_fo (yp_ftG A f) (yp_qg (yp_sQ A)) s) ∧ yp_Fr (yp_TW B) m m1) (yp_qg (yp_sQ A)) (fun k st hk hJ => by
    obtain ⟨m1, rfl, j1, j2, j3⟩ := hJ
    have hC1 : yp_CLm B m1 (yp_sQ A) := hR.1.fr (fun a j h => j3 a j (by unfold yp_TW; omega))
    have c1 := hC1.2.1
    by_cases e : k = yp_qg (yp_sQ A)
    · subst e
      exact .inr ⟨m1, by simp (disch := omega) only [fX12_laysFits_b17, hM, c1, Nat.reduceAdd, Nat.reduceMul, Nat.reduceSub, Nat.zero_add, Nat.add_zero, yp_LT, yp_nA, yp_nM, yp_ltF, yp_ltT, yp_leF, yp_leT, yp_eqF, eq_self, yp_eqM, yp_lt1N, yp_sbN, yp_sb2N, ↓reduceIte, ↓yp_iP11, ↓yp_iP12, ↓yp_m0P], j1, ⟨by have := j2.1; omega, j2.2⟩, j3⟩
    · have o3 := yp_prO_s j2 hf (show k < yp_qg (yp_sQ A) by omega)
      rw [yp_fo_s]
      generalize yp_fo (yp_ftG A f) k s = t at j1 j2 o3
      have hN1 : yp_HM m1 (B + 532) (yp_sH A) := hR.2.1.same (fun j => j3 _ j (by unfold yp_TW; omega))
      have yp_b1 := hR.2.2.2.2.1
      have e1 := yp_m_joins hI.1 hC1 k (by omega)
      have tl := j2.1
      by_cases hk0 : yp_qk (yp_sQ A) k = yp_N 0
      · obtain ⟨m3, m4, v, g1, g2, g3, g4, g5⟩ := yp_m_pairs hI hC1 hN1 f k (by omega) (by omega)
        have f4 : yp_Fr (yp_TW B) m m4 := j3.tr (g5.mono (fun a j h => by unfold yp_TQ at h; unfold yp_TW; omega))
        have k4 : yp_MK B m4 t := ⟨(g5 _ _ (by unfold yp_TQ; omega)).trans j1.1, fun i hi => ⟨(g5 _ _ (by unfold yp_TQ; omega)).trans (j1.2 i hi).1, (g5 _ _ (by unfold yp_TQ; omega)).trans (j1.2 i hi).2⟩⟩
        have c4 := k4.1
        rcases yp_m_right hI ((f4 _ _ (by unfold yp_TW; omega)).trans yp_b1.1) (fun i hi => (f4 _ _ (by unfold yp_TW; omega)).trans (yp_b1.2.1 i hi)) (fun i hi => (f4 _ _ (by unfold yp_TW; omega)).trans (yp_b1.2.2 i hi)) f k g3 with ⟨o1, o2⟩ | ⟨o1, o2⟩
        · rw [yp_ftG1 ⟨hk0, o1⟩] at o3 ⊢
          obtain ⟨m5, hm5⟩ : ∃ m5, m5 = up2 m4 (B + 538) t.1 (yp_N f) := ⟨_, rfl⟩
          have c5 : m5 (B + 517) 45 = yp_N t.1 := by rw [hm5, yp_up2_n _ _ (by omega), c4]
          obtain ⟨m6, hm6⟩ : ∃ m6, m6 = up2 m5 (B + 539) t.1 (yp_N k) := ⟨_, rfl⟩
          have c6 : m6 (B + 517) 45 = yp_N t.1 := by rw [hm6, yp_up2_n _ _ (by omega), c5]
          refine .inl ⟨by omega, (yp_N (k + 1), up2 m6 (B + 517) 45 (yp_N (t.1 + 1))), ?_, _, rfl, ⟨yp_up2_s _ _ _ _, fun i hi => ?_⟩, o3, ?_⟩
          · simp (disch := omega) only [fX12_laysFits_b17, fX12_laysFits_j104, fX12_laysFits_j141, hM, hU, c1, e1, hk0, g1, g2, o2, c4, ← hm5, c5, ← hm6, c6, Nat.reduceAdd, Nat.reduceMul, Nat.reduceSub, Nat.zero_add, Nat.add_zero, yp_LT, yp_nA, yp_nM, yp_ltF, yp_ltT, yp_leF, yp_leT, yp_eqF, eq_self, yp_eqM, yp_lt1N, yp_sbN, yp_sb2N, ↓reduceIte, ↓yp_iP11, ↓yp_iP12, ↓yp_m0P]
          · have hi : i < t.1 + 1 := hi
            rw [yp_up2_n _ _ (by omega), yp_up2_n _ _ (by omega)]
            show _ = yp_N (if i = t.1 then (f, k) else t.2 i).1 ∧ _ = yp_N (if i = t.1 then (f, k) else t.2 i).2
            by_cases e2 : i = t.1
            · rw [if_pos e2, e2]
              refine ⟨?_, ?_⟩
              · rw [hm6, yp_up2_n _ _ (by omega), hm5, yp_up2_s]
              · rw [hm6, yp_up2_s]
            · rw [if_neg e2, hm6, yp_up2_n _ _ (by omega), hm5, yp_up2_n _ _ (by omega), yp_up2_n _ _ (by omega), yp_up2_n _ _ (by omega)]
              exact k4.2 i (by omega)
          · rw [hm6, hm5]
            exact ((f4.up (by unfold yp_TW; omega)).up (by unfold yp_TW; omega)).up (by unfold yp_TW; omega)
        · rw [yp_ftG0 (fun h => o1 h.2)] at o3 ⊢
          refine .inl ⟨by omega, (yp_N (k + 1), m4), ?_, m4, rfl, k4, o3, f4⟩
          simp (disch := omega) only [fX12_laysFits_b17, fX12_laysFits_j104, fX12_laysFits_j141, hM, hU, c1, e1, hk0, g1, g2, o2, Nat.reduceAdd, Nat.reduceMul, Nat.reduceSub, Nat.zero_add, Nat.add_zero, yp_LT, yp_nA, yp_nM, yp_ltF, yp_ltT, yp_leF, yp_leT, yp_eqF, eq_self, yp_eqM, yp_lt1N, yp_sbN, yp_sb2N, ↓reduceIte, ↓yp_iP11, ↓yp_iP12, ↓yp_m0P]
      · rw [yp_ftG0 (fun h => hk0 h.1)] at o3 ⊢
        refine .inl ⟨by omega, (yp_N (k + 1), m1), ?_, m1, rfl, j1, o3, j3⟩
        simp (disch := omega) only [fX12_laysFits_b17, fX12_laysFits_j104, fX12_laysFits_j141, hM, hU, c1, e1, hk0, Nat.reduceAdd, Nat.reduceMul, Nat.reduceSub, Nat.zero_add, Nat.add_zero, yp_LT, yp_nA, yp_nM, yp_ltF, yp_ltT, yp_leF, yp_leT, yp_eqF, eq_self, yp_eqM, yp_lt1N, yp_sbN, yp_sb2N, ↓reduceIte, ↓yp_iP11, ↓yp_iP12, ↓yp_m0P]) (show yp_qg (yp_sQ A) < FU by rw [yp_FUe]; omega) (s0 := (yp_N 0, m')) ⟨m', rfl, hF, hO, hT⟩
  exact ⟨m2, h1, h2, h3, h4⟩
set_option maxHeartbeats 1000000 in
theorem yp_m_lays {m : Mem} (hR : yp_RMm B m A) (hI : yp_INV A) : ∃ m', fX12_laysFits (yp_SH B) (B + 517) m = some m' ∧ yp_MK B m' (yp_ftL A) ∧ yp_Fr (yp_TW B) m m' := by
  have hM := yp_mS B
  have hq := hI.1.1
  obtain ⟨m1, hm1⟩ : ∃ m1, m1 = up2 m (B + 517) 45 (yp_N 0) := ⟨_, rfl⟩
  have f1 : yp_Fr (yp_TW B) m m1 := by rw [hm1]; exact yp_Fr.rf.up (by unfold yp_TW; omega)
  have k1 : yp_MK B m1 (0, fun _ => (0, 0)) := ⟨by rw [hm1, yp_up2_s], fun i hi => absurd hi (Nat.not_lt_zero i)⟩
  obtain ⟨m', h1, h2, h4⟩ := yp_lpI (step := fun st : Int32 × Mem => fX12_laysFits_b7 (yp_SH B) (B + 517) st.1 st.2) (fun k st => ∃ m2, st = (yp_N k, m2) ∧ yp_MK B m2 (yp_fo (yp_ftF A) k (0, fun _ => (0, 0))) ∧ yp_prO A (8 * k) (yp_fo (yp_ftF A) k (0, fun _ => (0, 0))) ∧ yp_Fr (yp_TW B) m m2) (fun m2 => yp_MK B m2 (yp_ftL A) ∧ yp_Fr (yp_TW B) m m2) (yp_qf (yp_sQ A)) (fun k st hk hJ => by
    obtain ⟨m2, rfl, j1, j2, j3⟩ := hJ
    have c1 : m2 (B + 517) 17 = yp_N (yp_qf (yp_sQ A)) := (j3 _ _ (by unfold yp_TW; omega)).trans hR.1.1
    by_cases e : k = yp_qf (yp_sQ A)
    · subst e
      exact .inr ⟨m2, by simp (disch := omega) only [fX12_laysFits_b7, hM, c1, Nat.reduceAdd, Nat.reduceMul, Nat.reduceSub, Nat.zero_add, Nat.add_zero, yp_LT, yp_nA, yp_nM, yp_ltF, yp_ltT, yp_leF, yp_leT, yp_eqF, eq_self, yp_eqM, yp_lt1N, yp_sbN, yp_sb2N, ↓reduceIte, ↓yp_iP11, ↓yp_iP12, ↓yp_m0P], j1, j3⟩
    · obtain ⟨m3, g1, g2, g3, g4⟩ := yp_m_lays1 hR hI j3 j1 j2 (by omega) k (by omega)
      refine .inl ⟨by omega, (yp_N (k + 1), m3), ?_, m3, rfl, g2, by rw [yp_fo_s]; exact g3, g4⟩
      simp (disch := omega) only [fX12_laysFits_b7, fX12_laysFits_j147, hM, c1, g1, Nat.reduceAdd, Nat.reduceMul, Nat.reduceSub, Nat.zero_add, Nat.add_zero, yp_LT, yp_nA, yp_nM, yp_ltF, yp_ltT, yp_leF, yp_leT, yp_eqF, eq_self, yp_eqM, yp_lt1N, yp_sbN, yp_sb2N, ↓reduceIte, ↓yp_iP11, ↓yp_iP12, ↓yp_m0P]) (show yp_qf (yp_sQ A) < FU by rw [yp_FUe]; omega) (s0 := (yp_N 0, m1)) ⟨m1, rfl, k1, ⟨Nat.le_refl 0, fun i hi => absurd hi (Nat.not_lt_zero i)⟩, f1⟩
  exact ⟨m', by simp (disch := omega) only [fX12_laysFits_j153, fX12_laysFits_j147, fX12_laysFits_j141, fX12_laysFits_j104, fX12_laysFits_j97, fX12_laysFits_j96, fX12_laysFits, hM, ← hm1, h1, Nat.reduceAdd, Nat.reduceMul, Nat.reduceSub, Nat.zero_add, Nat.add_zero, yp_LT, yp_nA, yp_nM, yp_ltF, yp_ltT, yp_leF, yp_leT, yp_eqF, eq_self, yp_eqM, yp_lt1N, yp_sbN, yp_sb2N, ↓reduceIte, ↓yp_iP11, ↓yp_iP12, ↓yp_m0P], h2, h4⟩
set_option maxHeartbeats 1000000 in
theorem yp_FC.tg {m1 : Mem} (h : yp_Fr (yp_TG B) mm m1) : yp_FC B mm m1 := fun a j k => h a j (by unfold yp_KC at k; unfold yp_TG; omega)
set_option maxHeartbeats 1000000 in
theorem yp_FM.tw {m m2 : Mem} (h : yp_Fr (yp_TW B) (yp_m0 B m) m2) : yp_FM B m m2 := fun a j k => h a j (by unfold yp_KM at k; unfold yp_TW; omega)
set_option maxHeartbeats 1000000 in
theorem yp_p_fits (hR : yp_RCc B mm A) (hI : yp_INV A) (x : Int32) : yp_PM B (fX11_fits (yp_SH B) B x mm) (fun m => fX12_fits (yp_SH B) (B + 517) x m) hcI mm A := by
  have hA := yp_clsS B
  have hP := yp_prS B
  have hM := yp_mS B
  have hU := yp_refU B
  have hn := @yp_nd1 B mm
  have h0 := @yp_nd0 B mm A hR
  rcases yp_rng x 1 (by omega) with ⟨k, hk, rfl⟩ | h | h
  rotate_left
  · exact yp_PM_e1 hR hI (by simp (disch := omega) only [fX11_fits_j50, fX11_fits_j15, fX11_fits_j10, fX11_fits, hA, ↓h0, yp_lt_ne h, ↓yp_smLN, ↓yp_smRN, Nat.reduceAdd, Nat.reduceMul, Nat.reduceSub, Nat.zero_add, Nat.add_zero, yp_LT, yp_nA, yp_nM, yp_ltF, yp_ltT, yp_leF, yp_leT, yp_eqF, eq_self, yp_eqM, yp_lt1N, yp_sbN, yp_sb2N, ↓reduceIte, ↓yp_iP11, ↓yp_iP12, ↓yp_m0P]) (fun m hm => by simp (disch := omega) only [fX12_fits_j64, fX12_fits, hM, yp_m0e, ↓yp_wiP, h, yp_may11, Nat.reduceAdd, Nat.reduceMul, Nat.reduceSub, Nat.zero_add, Nat.add_zero, yp_LT, yp_nA, yp_nM, yp_ltF, yp_ltT, yp_leF, yp_leT, yp_eqF, eq_self, yp_eqM, yp_lt1N, yp_sbN, yp_sb2N, ↓reduceIte, ↓yp_iP11, ↓yp_iP12, ↓yp_m0P]) rfl yp_n1
  · exact yp_PM_e1 hR hI (by simp (disch := omega) only [fX11_fits_j50, fX11_fits_j15, fX11_fits_j10, fX11_fits, hA, ↓h0, yp_gt_ne h, ↓yp_smLN, ↓yp_smRN, Nat.reduceAdd, Nat.reduceMul, Nat.reduceSub, Nat.zero_add, Nat.add_zero, yp_LT, yp_nA, yp_nM, yp_ltF, yp_ltT, yp_leF, yp_leT, yp_eqF, eq_self, yp_eqM, yp_lt1N, yp_sbN, yp_sb2N, ↓reduceIte, ↓yp_iP11, ↓yp_iP12, ↓yp_m0P]) (fun m hm => by simp (disch := omega) only [fX12_fits_j64, fX12_fits, hM, yp_m0e, ↓yp_wiP, h, yp_may11, Nat.reduceAdd, Nat.reduceMul, Nat.reduceSub, Nat.zero_add, Nat.add_zero, yp_LT, yp_nA, yp_nM, yp_ltF, yp_ltT, yp_leF, yp_leT, yp_eqF, eq_self, yp_eqM, yp_lt1N, yp_sbN, yp_sb2N, ↓reduceIte, ↓yp_iP11, ↓yp_iP12, ↓yp_m0P]) rfl yp_n1
  obtain ⟨m1, g1, g2, g3, g4⟩ := yp_c_gather hR hI
  have c1 := g2.1
  have c2 := g2.2.1
  have hl := g3.1
  rcases yp_z01 hk with rfl | rfl
  · refine yp_PM_v hR hI (v := yp_N (yp_ftL A).1) (m1 := m1) ?_ (yp_FC.tg g4) (fun m hm => ?_)
    · simp (disch := omega) only [fX11_fits_j50, fX11_fits_j15, fX11_fits_j10, fX11_fits, hA, hP, ↓hn, ↓yp_smLN, ↓yp_smRN, g1, c1, Nat.reduceAdd, Nat.reduceMul, Nat.reduceSub, Nat.zero_add, Nat.add_zero, yp_LT, yp_nA, yp_nM, yp_ltF, yp_ltT, yp_leF, yp_leT, yp_eqF, eq_self, yp_eqM, yp_lt1N, yp_sbN, yp_sb2N, ↓reduceIte, ↓yp_iP11, ↓yp_iP12, ↓yp_m0P]
    · obtain ⟨m2, a1, a2, a3⟩ := yp_m_lays (yp_m0R hm) hI
      have d1 := a2.1
      exact ⟨m2, by simp (disch := omega) only [fX12_fits_j64, fX12_fits, hM, yp_m0e, ↓yp_wiP, yp_mayG, a1, d1, Nat.reduceAdd, Nat.reduceMul, Nat.reduceSub, Nat.zero_add, Nat.add_zero, yp_LT, yp_nA, yp_nM, yp_ltF, yp_ltT, yp_leF, yp_leT, yp_eqF, eq_self, yp_eqM, yp_lt1N, yp_sbN, yp_sb2N, ↓reduceIte, ↓yp_iP11, ↓yp_iP12, ↓yp_m0P], yp_FM.tw a3⟩
  · refine yp_PM_v hR hI (v := if (yp_ftL A).1 = 0 then -yp_N 1 else yp_N (10 * ((yp_ftL A).2 0).1 + ((yp_ftL A).2 0).2)) (m1 := m1) ?_ (yp_FC.tg g4) (fun m hm => ?_)
    · simp (disch := omega) only [fX11_fits_j50, fX11_fits_j15, fX11_fits_j10, fX11_fits, hA, hP, ↓hn, ↓yp_smLN, ↓yp_smRN, g1, c2, Nat.reduceAdd, Nat.reduceMul, Nat.reduceSub, Nat.zero_add, Nat.add_zero, yp_LT, yp_nA, yp_nM, yp_ltF, yp_ltT, yp_leF, yp_leT, yp_eqF, eq_self, yp_eqM, yp_lt1N, yp_sbN, yp_sb2N, ↓reduceIte, ↓yp_iP11, ↓yp_iP12, ↓yp_m0P]
    · obtain ⟨m2, a1, a2, a3⟩ := yp_m_lays (yp_m0R hm) hI
      have d1 := a2.1
      refine ⟨m2, ?_, yp_FM.tw a3⟩
      by_cases t0 : (yp_ftL A).1 = 0
      · rw [t0] at d1
        rw [if_pos t0]
        simp (disch := omega) only [fX12_fits_j64, fX12_fits, hM, yp_m0e, ↓yp_wiP, yp_mayG, a1, d1, Nat.reduceAdd, Nat.reduceMul, Nat.reduceSub, Nat.zero_add, Nat.add_zero, yp_LT, yp_nA, yp_nM, yp_ltF, yp_ltT, yp_leF, yp_leT, yp_eqF, eq_self, yp_eqM, yp_lt1N, yp_sbN, yp_sb2N, ↓reduceIte, ↓yp_iP11, ↓yp_iP12, ↓yp_m0P]
      · rw [if_neg t0]
        have d2 := a2.2 0 (by omega)
        simp (disch := omega) only [fX12_fits_j64, fX12_fits, hM, hU, yp_m0e, ↓yp_wiP, yp_mayG, a1, d1, d2, Nat.reduceAdd, Nat.reduceMul, Nat.reduceSub, Nat.zero_add, Nat.add_zero, yp_LT, yp_nA, yp_nM, yp_ltF, yp_ltT, yp_leF, yp_leT, yp_eqF, eq_self, yp_eqM, yp_lt1N, yp_sbN, yp_sb2N, ↓reduceIte, ↓yp_iP11, ↓yp_iP12, ↓yp_m0P]
end FITS3

section FITS2
variable {B : Nat} {mm : Mem} {A : yp_St}
set_option maxHeartbeats 1000000 in
theorem yp_FK.fr {m m' : Mem} {s : yp_Prs} {n : Nat} (h : yp_FK B m A s) (hs : s.1 ≤ n) (hf : ∀ a j, ((a = B + 453 ∧ (j = 6 ∨ j = 7)) ∨ (B + 461 ≤ a ∧ a < B + (461 + n))) → m' a j = m a j) : yp_FK B m' A s :=
  ⟨(hf _ _ (by omega)).trans h.1, (hf _ _ (by omega)).trans h.2.1, fun i hi x hx => (hf _ _ (by omega)).trans (h.2.2 i hi x hx)⟩
set_option maxHeartbeats 1000000 in
theorem yp_c_fits {m : Mem} {s : yp_Prs} (hI : yp_INV A) (hC : yp_CLc B m (yp_sQ A)) (hH : yp_HC m (B + 33) (yp_sH A)) (hL : m (B + 17) 2 = yp_N (yp_sL A)) (hp : ∀ i, i < yp_sL A → m (B + 18) i = yp_sLp A i) (hm : ∀ i, i < yp_sL A → m (B + 19) i = yp_sLm A i) (hF : yp_FK B m A s) (hs : s.1 < 48) (f g : Nat) (hf : f < 6) (hg : g < yp_qg (yp_sQ A)) : ∃ m', ((yp_okR A f g ∧ fX6_fitsBook (yp_SH B) (B + 453) (B + 33) (yp_N f) (yp_N g) m = some (yp_N 1, m')) ∨ (¬ yp_okR A f g ∧ fX6_fitsBook (yp_SH B) (B + 453) (B + 33) (yp_N f) (yp_N g) m = some (yp_N 0, m'))) ∧ yp_FK B m' A s ∧ (∀ x, x < 99 → m' (B + (461 + s.1)) x = yp_rowV A (f, g) (yp_N x)) ∧ yp_Fr (yp_TG B) m m' := by
  have hP := yp_prS B
  have hB := yp_bokS B
  have w1 := yp_c_fill (sh := yp_SH B) (yp_N 0) m (yp_sa461 B s.1 hs) (by omega)
  obtain ⟨m1, hm1⟩ : ∃ m1 : Mem, m1 = (fun b j => if b = B + (461 + s.1) ∧ j < 99 then yp_N 0 else m b j) := ⟨_, rfl⟩
  rw [← hm1] at w1
  have f1 : ∀ a j, a ≠ B + (461 + s.1) → m1 a j = m a j := fun a j h => by rw [hm1]; exact if_neg (fun q => h q.1)
  have z1 : ∀ x, x < 99 → m1 (B + (461 + s.1)) x = yp_N 0 := fun x hx => by rw [hm1]; exact if_pos ⟨rfl, hx⟩
  have hC1 : yp_CLc B m1 (yp_sQ A) := hC.fr (fun a j h => f1 a j (by omega))
  have hH1 : yp_HC m1 (B + 33) (yp_sH A) := hH.same (fun a j p1 p2 => f1 a j (by omega))
  obtain ⟨m2, m3, e1, e2, e3⟩ := yp_c_pairs hI.1 hC1 hH1 f g hf hg
  have hK : yp_HC m3 (B + 454) (yp_pH (yp_sQ A) (yp_sH A) f g) := by
    rcases e2 with ⟨h1, h2, h3⟩ | ⟨h1, h2, h3⟩
    · rw [yp_pH0 h1]; exact h3
    · rw [yp_pH1 h1]; exact h3
  have e2' : ∃ v, fX5_partBy (yp_SH B) (B + 23) (B + 454) (yp_N f) (yp_N g) m2 = some (v, m3) := by
    rcases e2 with ⟨h1, h2, h3⟩ | ⟨h1, h2, h3⟩
    · exact ⟨_, h2⟩
    · exact ⟨_, h2⟩
  obtain ⟨v, e2'⟩ := e2'
  obtain ⟨m4, k1, k2, k3⟩ := yp_c_row hI.1 (hI.2.1.pH hI.1 f g hf) hK s.1 hs (fun x hx => (e3 _ _ (by unfold yp_TB; omega)).trans (z1 x hx))
  have F4 : ∀ a j, a ≠ B + (461 + s.1) → ¬ yp_TB B a j → m4 a j = m a j := fun a j h1 h2 => by rw [k3 a j h1, e3 a j h2, f1 a j h1]
  have hrow : ∀ x, x < 99 → m4 (B + (461 + s.1)) x = yp_rowV A (f, g) (yp_N x) := fun x hx => k2 x hx
  have c1 := hF.1
  have r1 := yp_ar460 B s.1 hs
  refine ⟨m4, ?_, hF.fr (Nat.le_refl _) (fun a j h => F4 a j (by omega) (by unfold yp_TB; omega)), hrow, fun a j h => F4 a j (by unfold yp_TG at h; omega) (by unfold yp_TG at h; unfold yp_TB; omega)⟩
  rcases yp_c_right hI ((F4 _ _ (by omega) (by unfold yp_TB; omega)).trans hL) (fun i hi => (F4 _ _ (by omega) (by unfold yp_TB; omega)).trans (hp i hi)) (fun i hi => (F4 _ _ (by omega) (by unfold yp_TB; omega)).trans (hm i hi)) s.1 hs f g hrow with ⟨o1, o2⟩ | ⟨o1, o2⟩
  · exact .inl ⟨o1, by simp (disch := omega) only [fX6_fitsBook, fX6_fitsBook_j111, hP, hB, c1, yp_aN460, r1, w1, e1, e2', k1, o2, yp_ck1, Nat.reduceAdd, Nat.reduceMul, Nat.reduceSub, Nat.zero_add, Nat.add_zero, yp_LT, yp_nA, yp_nM, yp_ltF, yp_ltT, yp_leF, yp_leT, yp_eqF, eq_self, yp_eqM, yp_lt1N, yp_sbN, yp_sb2N, ↓reduceIte, ↓yp_iP11, ↓yp_iP12, ↓yp_m0P]⟩
  · exact .inr ⟨o1, by simp (disch := omega) only [fX6_fitsBook, fX6_fitsBook_j111, hP, hB, c1, yp_aN460, r1, w1, e1, e2', k1, o2, yp_ck0, Nat.reduceAdd, Nat.reduceMul, Nat.reduceSub, Nat.zero_add, Nat.add_zero, yp_LT, yp_nA, yp_nM, yp_ltF, yp_ltT, yp_leF, yp_leT, yp_eqF, eq_self, yp_eqM, yp_lt1N, yp_sbN, yp_sb2N, ↓reduceIte, ↓yp_iP11, ↓yp_iP12, ↓yp_m0P]⟩
set_option maxHeartbeats 1000000 in
theorem yp_c_gath1 {m : Mem} {s : yp_Prs} {n : Nat} (hR : yp_RCc B mm A) (hI : yp_INV A) (hT : yp_Fr (yp_TG B) mm m) (hF : yp_FK B m A s) (hO : yp_prO A n s) (hn : n + 8 ≤ 48) (f : Nat) (hf : f < yp_qf (yp_sQ A)) : ∃ m', loopN (fun st : Int32 × Mem => fX6_gather_b25 (yp_SH B) (B + 453) (B + 33) (yp_N f) st.1 st.2) FU (yp_N 0, m) = some m' ∧ yp_FK B m' A (yp_ftF A f s) ∧ yp_prO A (n + 8) (yp_ftF A f s) ∧ yp_Fr (yp_TG B) mm m' := by
  have hP := yp_prS B
  have hA := yp_clsS B
  have hq := hI.1.1
  have hq2 := hI.1.2.1
  obtain ⟨m', h1, h2, h3, h4⟩ := yp_lpI (step := fun st : Int32 × Mem => fX6_gather_b25 (yp_SH B) (B + 453) (B + 33) (yp_N f) st.1 st.2) (fun k st => ∃ m1, st = (yp_N k, m1) ∧ yp_FK B m1 A (yp_fo (yp_ftG A f) k s) ∧ yp_prO A (n + k) (yp_fo (yp_ftG A f) k s) ∧ yp_Fr (yp_TG B) mm m1) (fun m1 => yp_FK B m1 A (yp_fo (yp_ftG A f) (yp_qg (yp_sQ A)) s) ∧ yp_prO A (n + 8) (yp_fo (yp_ftG A f) (yp_qg (yp_sQ A)) s) ∧ yp_Fr (yp_TG B) mm m1) (yp_qg (yp_sQ A)) (fun k st hk hJ => by
    obtain ⟨m1, rfl, j1, j2, j3⟩ := hJ
    have hC1 : yp_CLc B m1 (yp_sQ A) := hR.1.fr (fun a j h => j3 a j (by unfold yp_TG; omega))
    have c1 := hC1.2.1
    by_cases e : k = yp_qg (yp_sQ A)
    · subst e
      exact .inr ⟨m1, by simp (disch := omega) only [fX6_gather_b25, hP, hA, c1, Nat.reduceAdd, Nat.reduceMul, Nat.reduceSub, Nat.zero_add, Nat.add_zero, yp_LT, yp_nA, yp_nM, yp_ltF, yp_ltT, yp_leF, yp_leT, yp_eqF, eq_self, yp_eqM, yp_lt1N, yp_sbN, yp_sb2N, ↓reduceIte, ↓yp_iP11, ↓yp_iP12, ↓yp_m0P], j1, ⟨by have := j2.1; omega, j2.2⟩, j3⟩
    · have o3 := yp_prO_s j2 hf (show k < yp_qg (yp_sQ A) by omega)
      rw [yp_fo_s]
      generalize yp_fo (yp_ftG A f) k s = t at j1 j2 o3
      have hH1 : yp_HC m1 (B + 33) (yp_sH A) := hR.2.1.same (fun a j p1 p2 => j3 a j (by unfold yp_TG; omega))
      have yp_b1 := hR.2.2.2.2.1
      have e1 := yp_c_parts hI.1 hC1 k (by omega)
      have tl := j2.1
      by_cases hk0 : yp_qk (yp_sQ A) k = yp_N 0
      · obtain ⟨m2, g1, g2, g3, g4⟩ := yp_c_fits hI hC1 hH1 ((j3 _ _ (by unfold yp_TG; omega)).trans yp_b1.1) (fun i hi => (j3 _ _ (by unfold yp_TG; omega)).trans (yp_b1.2.1 i hi)) (fun i hi => (j3 _ _ (by unfold yp_TG; omega)).trans (yp_b1.2.2 i hi)) j1 (by omega) f k (by omega) (by omega)
        rcases g1 with ⟨g1, g5⟩ | ⟨g1, g5⟩
        · rw [yp_ftG1 ⟨hk0, g1⟩] at o3 ⊢
          have c2 := g2.1
          have c3 := g2.2.1
          obtain ⟨w, hw⟩ : ∃ w, w = (if t.1 = 0 then yp_N (10 * f + k) else m2 (B + 453) 7) := ⟨_, rfl⟩
          have fin : yp_FK B (up2 (up2 m2 (B + 453) 7 w) (B + 453) 6 (yp_N (t.1 + 1))) A (t.1 + 1, fun i => if i = t.1 then (f, k) else t.2 i) := by
            refine ⟨yp_up2_s _ _ _ _, ?_, fun i hi x hx => ?_⟩
            · rw [yp_up2_n _ _ (by omega), yp_up2_s, hw, if_neg (show ¬ t.1 + 1 = 0 by omega)]
              by_cases t0 : t.1 = 0
              · rw [if_pos t0]
                show yp_N (10 * f + k) = yp_N (10 * (if 0 = t.1 then (f, k) else t.2 0).1 + (if 0 = t.1 then (f, k) else t.2 0).2)
                rw [if_pos t0.symm]
              · rw [if_neg t0, c3, if_neg t0]
                show _ = yp_N (10 * (if 0 = t.1 then (f, k) else t.2 0).1 + (if 0 = t.1 then (f, k) else t.2 0).2)
                rw [if_neg (fun h => t0 h.symm)]
            · have hi : i < t.1 + 1 := hi
              rw [yp_up2_n _ _ (by omega), yp_up2_n _ _ (by omega)]
              show _ = yp_rowV A (if i = t.1 then (f, k) else t.2 i) (yp_N x)
              by_cases e2 : i = t.1
              · rw [if_pos e2, e2]; exact g3 x hx
              · rw [if_neg e2]; exact g2.2.2 i (by omega) x hx
          refine .inl ⟨by omega, (yp_N (k + 1), up2 (up2 m2 (B + 453) 7 w) (B + 453) 6 (yp_N (t.1 + 1))), ?_, _, rfl, fin, o3, ((j3.tr g4).up (by unfold yp_TG; omega)).up (by unfold yp_TG; omega)⟩
          have r6 : up2 m2 (B + 453) 7 w (B + 453) 6 = yp_N t.1 := by rw [yp_up2_n _ _ (by omega), c2]
          by_cases t0 : t.1 = 0
          · rw [if_pos t0] at hw
            subst hw
            rw [t0] at c2 r6 ⊢
            simp (disch := omega) only [fX6_gather_b25, fX6_gather_j78, fX6_gather_j91, hP, hA, c1, e1, hk0, g5, c2, r6, Nat.reduceAdd, Nat.reduceMul, Nat.reduceSub, Nat.zero_add, Nat.add_zero, yp_LT, yp_nA, yp_nM, yp_ltF, yp_ltT, yp_leF, yp_leT, yp_eqF, eq_self, yp_eqM, yp_lt1N, yp_sbN, yp_sb2N, ↓reduceIte, ↓yp_iP11, ↓yp_iP12, ↓yp_m0P]
          · rw [if_neg t0] at hw
            subst hw
            simp (disch := omega) only [fX6_gather_b25, fX6_gather_j78, fX6_gather_j91, hP, hA, c1, e1, hk0, g5, c2, r6, Nat.reduceAdd, Nat.reduceMul, Nat.reduceSub, Nat.zero_add, Nat.add_zero, yp_LT, yp_nA, yp_nM, yp_ltF, yp_ltT, yp_leF, yp_leT, yp_eqF, eq_self, yp_eqM, yp_lt1N, yp_sbN, yp_sb2N, ↓reduceIte, ↓yp_iP11, ↓yp_iP12, ↓yp_m0P]
        · rw [yp_ftG0 (fun h => g1 h.2)] at o3 ⊢
          refine .inl ⟨by omega, (yp_N (k + 1), m2), ?_, m2, rfl, g2, o3, j3.tr g4⟩
          simp (disch := omega) only [fX6_gather_b25, fX6_gather_j78, fX6_gather_j91, hP, hA, c1, e1, hk0, g5, Nat.reduceAdd, Nat.reduceMul, Nat.reduceSub, Nat.zero_add, Nat.add_zero, yp_LT, yp_nA, yp_nM, yp_ltF, yp_ltT, yp_leF, yp_leT, yp_eqF, eq_self, yp_eqM, yp_lt1N, yp_sbN, yp_sb2N, ↓reduceIte, ↓yp_iP11, ↓yp_iP12, ↓yp_m0P]
      · rw [yp_ftG0 (fun h => hk0 h.1)] at o3 ⊢
        refine .inl ⟨by omega, (yp_N (k + 1), m1), ?_, m1, rfl, j1, o3, j3⟩
        simp (disch := omega) only [fX6_gather_b25, fX6_gather_j78, fX6_gather_j91, hP, hA, c1, e1, hk0, Nat.reduceAdd, Nat.reduceMul, Nat.reduceSub, Nat.zero_add, Nat.add_zero, yp_LT, yp_nA, yp_nM, yp_ltF, yp_ltT, yp_leF, yp_leT, yp_eqF, eq_self, yp_eqM, yp_lt1N, yp_sbN, yp_sb2N, ↓reduceIte, ↓yp_iP11, ↓yp_iP12, ↓yp_m0P]) (show yp_qg (yp_sQ A) < FU by rw [yp_FUe]; omega) (s0 := (yp_N 0, m)) ⟨m, rfl, hF, hO, hT⟩
  exact ⟨m', h1, h2, h3, h4⟩
set_option maxHeartbeats 1000000 in
theorem yp_c_gather (hR : yp_RCc B mm A) (hI : yp_INV A) : ∃ m', fX6_gather (yp_SH B) (B + 453) (B + 33) mm = some m' ∧ yp_FK B m' A (yp_ftL A) ∧ yp_prO A 48 (yp_ftL A) ∧ yp_Fr (yp_TG B) mm m' := by
  have hP := yp_prS B
  have hA := yp_clsS B
  have hq := hI.1.1
  obtain ⟨m1, hm1⟩ : ∃ m, m = up2 (up2 mm (B + 453) 6 (yp_N 0)) (B + 453) 7 (-yp_N 1) := ⟨_, rfl⟩
  have f1 : yp_Fr (yp_TG B) mm m1 := by rw [hm1]; exact (yp_Fr.rf.up (by unfold yp_TG; omega)).up (by unfold yp_TG; omega)
  have k1 : yp_FK B m1 A (0, fun _ => (0, 0)) := by
    refine ⟨?_, ?_, fun i hi => absurd hi (Nat.not_lt_zero i)⟩
    · rw [hm1, yp_up2_n _ _ (by omega), yp_up2_s]
    · rw [hm1, yp_up2_s, if_pos rfl]
  obtain ⟨m', h1, h2, h3, h4⟩ := yp_lpI (step := fun st : Int32 × Mem => fX6_gather_b12 (yp_SH B) (B + 453) (B + 33) st.1 st.2) (fun k st => ∃ m, st = (yp_N k, m) ∧ yp_FK B m A (yp_fo (yp_ftF A) k (0, fun _ => (0, 0))) ∧ yp_prO A (8 * k) (yp_fo (yp_ftF A) k (0, fun _ => (0, 0))) ∧ yp_Fr (yp_TG B) mm m) (fun m => yp_FK B m A (yp_ftL A) ∧ yp_prO A 48 (yp_ftL A) ∧ yp_Fr (yp_TG B) mm m) (yp_qf (yp_sQ A)) (fun k st hk hJ => by
    obtain ⟨m, rfl, j1, j2, j3⟩ := hJ
    have c1 : m (B + 3) 3 = yp_N (yp_qf (yp_sQ A)) := (j3 _ _ (by unfold yp_TG; omega)).trans hR.1.1
    by_cases e : k = yp_qf (yp_sQ A)
    · subst e
      exact .inr ⟨m, by simp (disch := omega) only [fX6_gather_b12, hP, hA, c1, Nat.reduceAdd, Nat.reduceMul, Nat.reduceSub, Nat.zero_add, Nat.add_zero, yp_LT, yp_nA, yp_nM, yp_ltF, yp_ltT, yp_leF, yp_leT, yp_eqF, eq_self, yp_eqM, yp_lt1N, yp_sbN, yp_sb2N, ↓reduceIte, ↓yp_iP11, ↓yp_iP12, ↓yp_m0P], j1, ⟨by have := j2.1; unfold yp_ftL; omega, j2.2⟩, j3⟩
    · obtain ⟨m2, g1, g2, g3, g4⟩ := yp_c_gath1 hR hI j3 j1 j2 (by omega) k (by omega)
      refine .inl ⟨by omega, (yp_N (k + 1), m2), ?_, m2, rfl, g2, by rw [yp_fo_s]; exact g3, g4⟩
      simp (disch := omega) only [fX6_gather_b12, fX6_gather_j97, hP, hA, c1, g1, Nat.reduceAdd, Nat.reduceMul, Nat.reduceSub, Nat.zero_add, Nat.add_zero, yp_LT, yp_nA, yp_nM, yp_ltF, yp_ltT, yp_leF, yp_leT, yp_eqF, eq_self, yp_eqM, yp_lt1N, yp_sbN, yp_sb2N, ↓reduceIte, ↓yp_iP11, ↓yp_iP12, ↓yp_m0P]) (show yp_qf (yp_sQ A) < FU by rw [yp_FUe]; omega) (s0 := (yp_N 0, m1)) ⟨m1, rfl, k1, ⟨Nat.le_refl 0, fun i hi => absurd hi (Nat.not_lt_zero i)⟩, f1⟩
  exact ⟨m', by simp (disch := omega) only [fX6_gather_j103, fX6_gather_j97, fX6_gather_j91, fX6_gather_j78, fX6_gather, hP, ← hm1, h1, Nat.reduceAdd, Nat.reduceMul, Nat.reduceSub, Nat.zero_add, Nat.add_zero, yp_LT, yp_nA, yp_nM, yp_ltF, yp_ltT, yp_leF, yp_leT, yp_eqF, eq_self, yp_eqM, yp_lt1N, yp_sbN, yp_sb2N, ↓reduceIte, ↓yp_iP11, ↓yp_iP12, ↓yp_m0P], h2, h3, h4⟩
end FITS2

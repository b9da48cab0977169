section OPTM
variable {B : Nat} {mm : Mem} {Q : yp_EnvT} {H : Nat → Int32}
def yp_TM (B : Nat) : Nat → Nat → Prop := fun a _ => a = B + 528 ∨ a = B + 529
set_option maxHeartbeats 1000000 in
theorem yp_m_turnsBy (hE : yp_EV Q) (hC : yp_CLm B mm Q) (hM : yp_HM mm (B + 533) H) (f c g : Nat) (much : Int32) (hf : f < 6) (hc : c < 7) (hg : g < yp_qg Q) : ∃ mm', fX12_turnsBy (yp_SH B) (B + 517) (yp_N f) (yp_N c) (yp_N g) much mm = some (yp_TV Q H f c g much, mm') ∧ yp_Fr (yp_TM B) mm mm' := by
  have hA := yp_refS B
  have hX := yp_mS B
  have hg8 : g < 8 := by have := hE.2.1; omega
  have e1 := hC.2.2.2.1 g hg
  obtain ⟨m2, hm2⟩ : ∃ m, m = up2 (up2 (up2 (up2 (up2 (up2 (up2 (up2 mm (B + 529) 0 (yp_N c)) (B + 529) 1 much) (B + 529) 2 (yp_qb Q g)) (B + 529) 3 (yp_W H f)) (B + 529) 4 (H (126 + (f * 7 + c)))) (B + 529) 5 (H (168 + f))) (B + 529) 6 (H 174)) (B + 529) 7 (yp_N f) := ⟨_, rfl⟩
  have f2 : ∀ a j, a ≠ B + 529 → m2 a j = mm a j := fun a j h => by
    rw [hm2, yp_up2_n _ _ (by omega), yp_up2_n _ _ (by omega), yp_up2_n _ _ (by omega), yp_up2_n _ _ (by omega), yp_up2_n _ _ (by omega), yp_up2_n _ _ (by omega), yp_up2_n _ _ (by omega), yp_up2_n _ _ (by omega)]
  have hC2 : yp_CLm B m2 Q := hC.fr (fun a j h => f2 a j (by omega))
  obtain ⟨m3, h3, h4⟩ := yp_m_turns (F := yp_FTk H f c (yp_qb Q g) much) hE hC2 (fun j hj => by
    have : j = 0 ∨ j = 1 ∨ j = 2 ∨ j = 3 ∨ j = 4 ∨ j = 5 ∨ j = 6 ∨ j = 7 := by omega
    rw [hm2]
    rcases this with rfl | rfl | rfl | rfl | rfl | rfl | rfl | rfl <;> simp [up2, yp_FTk])
  refine ⟨m3, ?_, fun a j h => ?_⟩
  · have r1 := hM (126 + (f * 7 + c)) (by omega)
    have r2 := hM (168 + f) (by omega)
    have r3 := hM 174 (by omega)
    have r4 := yp_m_within hM f hf
    simp (disch := omega) only [fX12_turnsBy, fX12_turnsOf, hA, hX, e1, r4, yp_m_in, r1, r2, r3, ← hm2, h3, yp_TV, Nat.reduceLeDiff, Nat.reduceLT, Nat.reduceAdd, Nat.reduceMul, Nat.reduceSub, Nat.reduceEqDiff, Nat.le_refl, Nat.lt_irrefl, Nat.zero_add, Nat.add_zero, yp_LT, yp_nA, yp_nM, yp_leN, yp_ltN, yp_eqN, lt1, yp_sb, yp_sb2, if_false, if_true]
  · unfold yp_TM at h
    rw [h4 a j (by omega)]
    exact f2 a j (by omega)
set_option maxHeartbeats 1000000 in
theorem yp_m_joins (hE : yp_EV Q) (hC : yp_CLm B mm Q) (g : Nat) (hg : g < yp_qg Q) : fX12_joinsAll (yp_SH B) (B + 517) (yp_N g) mm = some (if yp_qk Q g = yp_N 0 then yp_N 0 else yp_N 1) := by
  have hA := yp_refS B
  have hg8 : g < 8 := by have := hE.2.1; omega
  have e1 := hC.2.2.2.2.1 g hg
  have e2 := hE.2.2.2.2.1 g hg
  simp (disch := omega) only [fX12_joinsAll, fX12_joinsAll_j19, hA, e1, yp_ck0, yp_ck1, Nat.reduceLeDiff, Nat.reduceLT, Nat.reduceAdd, Nat.reduceMul, Nat.reduceSub, Nat.reduceEqDiff, Nat.le_refl, Nat.lt_irrefl, Nat.zero_add, Nat.add_zero, yp_LT, yp_nA, yp_nM, yp_leN, yp_ltN, yp_eqN, lt1, yp_sb, yp_sb2, if_false, if_true]
  rcases e2 with e2 | e2
  · rw [e2, if_neg (by decide), if_pos rfl]
  · rw [e2, if_pos rfl, if_neg (by decide)]
def yp_TQ (B : Nat) : Nat → Nat → Prop := fun a _ => a = B + 528 ∨ a = B + 529 ∨ a = B + 535 ∨ a = B + 533
set_option maxHeartbeats 1000000 in
theorem yp_le0 {v : Int32} (h : yp_N 0 ≤ v) : (v = yp_N 0) = (v ≤ yp_N 0) := by
  apply propext
  constructor
  · intro e; rw [e]; exact Int32.le_refl _
  · intro e; exact Int32.le_antisymm e h
set_option maxHeartbeats 1000000 in
theorem yp_m_parted (hE : yp_EV Q) (hC : yp_CLm B mm Q) (hM : yp_HM mm (B + 533) H) (hnn : ∀ k, k < 42 → yp_N 0 ≤ H k) (f g : Nat) (hf : f < 6) (hg : g < yp_qg Q) : (¬ yp_doesP Q H f g ∧ fX12_isParted (yp_SH B) (B + 517) (yp_N f) (yp_N g) mm = some (yp_N 0, mm)) ∨ (yp_doesP Q H f g ∧ ∃ mm', fX12_isParted (yp_SH B) (B + 517) (yp_N f) (yp_N g) mm = some (yp_N 1, mm') ∧ yp_HM mm' (B + 533) (yp_prt Q H f g) ∧ yp_Fr (yp_TQ B) mm mm') := by
  have hA := yp_refS B
  have hX := yp_mS B
  have e1 := yp_m_joins hE hC g hg
  have e2 := yp_m_within hM f hf
  by_cases h1 : yp_qk Q g = yp_N 0
  · by_cases h2 : yp_W H f = yp_N 0
    · refine .inl ⟨fun h => h.2 h2, ?_⟩
      simp (disch := omega) only [fX12_isParted, fX12_isParted_j16, hA, e1, e2, h1, h2, Nat.reduceLeDiff, Nat.reduceLT, Nat.reduceAdd, Nat.reduceMul, Nat.reduceSub, Nat.reduceEqDiff, Nat.le_refl, Nat.lt_irrefl, Nat.zero_add, Nat.add_zero, yp_LT, yp_nA, yp_nM, yp_leN, yp_ltN, yp_eqN, lt1, yp_sb, yp_sb2, if_false, if_true]
    · refine .inr ⟨⟨h1, h2⟩, ?_⟩
      obtain ⟨m1, k1, k2, k3⟩ := yp_lpI (step := fun st : Int32 × Mem => fX12_isParted_b20 (yp_SH B) (B + 517) (yp_N f) (yp_N g) st.1 st.2) (fun k st => ∃ m, st = (yp_N k, m) ∧ (∀ j, j < k → m (B + 535) j = yp_tbH Q H f g j) ∧ yp_Fr (fun a _ => a = B + 528 ∨ a = B + 529 ∨ a = B + 535) mm m) (fun m => (∀ j, j < 7 → m (B + 535) j = yp_tbH Q H f g j) ∧ yp_Fr (fun a _ => a = B + 528 ∨ a = B + 529 ∨ a = B + 535) mm m) 7 (fun k st hk hI => by
        obtain ⟨m, rfl, hs, hF⟩ := hI
        by_cases hk7 : k = 7
        · subst hk7
          exact .inr ⟨m, by simp (disch := omega) only [fX12_isParted_b20, Nat.reduceLeDiff, Nat.reduceLT, Nat.reduceAdd, Nat.reduceMul, Nat.reduceSub, Nat.reduceEqDiff, Nat.le_refl, Nat.lt_irrefl, Nat.zero_add, Nat.add_zero, yp_LT, yp_nA, yp_nM, yp_leN, yp_ltN, yp_eqN, lt1, yp_sb, yp_sb2, if_false, if_true], hs, hF⟩
        · have hHm : yp_HM m (B + 533) H := hM.same (fun j => hF _ j (by omega))
          have hCm : yp_CLm B m Q := hC.fr (fun a j h => hF a j (by omega))
          obtain ⟨m', t1, t2⟩ := yp_m_turnsBy hE hCm hHm f k g (H (f * 7 + k)) hf (by omega) hg
          have r1 := hHm (f * 7 + k) (by omega)
          refine .inl ⟨by omega, (yp_N (k + 1), up2 m' (B + 535) k (yp_tbH Q H f g k)), ?_, _, rfl, fun j hj => ?_, ?_⟩
          · simp (disch := omega) only [fX12_isParted_b20, hA, hX, yp_m_in, r1, t1, (show (7 ≤ k) = False by simp only [eq_iff_iff, iff_false]; omega), yp_tbH, Nat.reduceLeDiff, Nat.reduceLT, Nat.reduceAdd, Nat.reduceMul, Nat.reduceSub, Nat.reduceEqDiff, Nat.le_refl, Nat.lt_irrefl, Nat.zero_add, Nat.add_zero, yp_LT, yp_nA, yp_nM, yp_leN, yp_ltN, yp_eqN, lt1, yp_sb, yp_sb2, if_false, if_true]
          · by_cases e : j = k
            · subst e; exact yp_up2_s _ _ _ _
            · rw [yp_up2_n _ _ (by omega), t2 _ _ (by unfold yp_TM; omega)]
              exact hs j (by omega)
          · refine yp_Fr.up (hF.tr (t2.mono (fun a j h => ?_))) (.inr (.inr rfl))
            unfold yp_TM at h
            omega) (show 7 < FU by rw [yp_FUe]; omega) (s0 := (yp_N 0, mm)) ⟨mm, rfl, fun j hj => absurd hj (Nat.not_lt_zero j), yp_Fr.rf⟩
      have hH1 : yp_HM m1 (B + 533) H := hM.same (fun j => k3 _ j (by omega))
      obtain ⟨m2, l1, l2, l3⟩ := yp_lpI (step := fun st : Int32 × Mem => fX12_isParted_b58 (yp_SH B) (B + 517) (yp_N f) st.1 st.2) (fun k st => ∃ m, st = (yp_N k, m) ∧ yp_HM m (B + 533) (yp_prP H f (yp_tbH Q H f g) k) ∧ yp_Fr (yp_FS B) m1 m) (fun m => yp_HM m (B + 533) (yp_prP H f (yp_tbH Q H f g) 7) ∧ yp_Fr (yp_FS B) m1 m) 7 (fun k st hk hI => by
        obtain ⟨m, rfl, hs, hF⟩ := hI
        by_cases hk7 : k = 7
        · subst hk7
          exact .inr ⟨m, by simp (disch := omega) only [fX12_isParted_b58, Nat.reduceLeDiff, Nat.reduceLT, Nat.reduceAdd, Nat.reduceMul, Nat.reduceSub, Nat.reduceEqDiff, Nat.le_refl, Nat.lt_irrefl, Nat.zero_add, Nat.add_zero, yp_LT, yp_nA, yp_nM, yp_leN, yp_ltN, yp_eqN, lt1, yp_sb, yp_sb2, if_false, if_true], hs, hF⟩
        · have r1 := hs (f * 7 + k) (by omega)
          have r2 := hs (42 + (f * 7 + k)) (by omega)
          have r3 : m (B + 535) k = yp_tbH Q H f g k := (hF _ _ (by unfold yp_FS; omega)).trans (k2 k (by omega))
          rw [yp_prP_a H f hf _ k (by omega)] at r1
          rw [yp_prP_b H f hf _ k (by omega)] at r2
          have r4 := yp_le0 (hnn (f * 7 + k) (by omega))
          by_cases hc : H (f * 7 + k) ≤ yp_N 0
          · refine .inl ⟨by omega, (yp_N (k + 1), m), ?_, m, rfl, ?_, hF⟩
            · simp (disch := omega) only [fX12_isParted_b58, fX12_isParted_j137, hX, yp_m_in, r1, (show (7 ≤ k) = False by simp only [eq_iff_iff, iff_false]; omega), r4, hc, Nat.reduceLeDiff, Nat.reduceLT, Nat.reduceAdd, Nat.reduceMul, Nat.reduceSub, Nat.reduceEqDiff, Nat.le_refl, Nat.lt_irrefl, Nat.zero_add, Nat.add_zero, yp_LT, yp_nA, yp_nM, yp_leN, yp_ltN, yp_eqN, lt1, yp_sb, yp_sb2, if_false, if_true]
            · rw [yp_prP_s1 H f hf _ k (by omega) hc]
              exact hs
          · refine .inl ⟨by omega, (yp_N (k + 1), up2 (up2 (up2 m (B + 533) (42 + (f * 7 + k)) (H (42 + (f * 7 + k)) + H (f * 7 + k))) (B + 533) (84 + (f * 7 + k)) (yp_tbH Q H f g k)) (B + 533) (f * 7 + k) (yp_N 0)), ?_, _, rfl, ?_, ?_⟩
            · simp (disch := omega) only [fX12_isParted_b58, fX12_isParted_j137, hA, hX, yp_m_in, r1, r2, (show (7 ≤ k) = False by simp only [eq_iff_iff, iff_false]; omega), r4, hc, yp_up2_n, r3, Nat.reduceLeDiff, Nat.reduceLT, Nat.reduceAdd, Nat.reduceMul, Nat.reduceSub, Nat.reduceEqDiff, Nat.le_refl, Nat.lt_irrefl, Nat.zero_add, Nat.add_zero, yp_LT, yp_nA, yp_nM, yp_leN, yp_ltN, yp_eqN, lt1, yp_sb, yp_sb2, if_false, if_true]
            · rw [yp_prP_s2 H f hf _ k (by omega) hc]
              exact ((hs.up _ _).up _ _).up _ _
            · exact ((hF.up rfl).up rfl).up rfl) (show 7 < FU by rw [yp_FUe]; omega) (s0 := (yp_N 0, m1)) ⟨m1, rfl, by rw [yp_prP0]; exact hH1, yp_Fr.rf⟩
      have r9 := l2 (168 + f) (by omega)
      have e9 : yp_prP H f (yp_tbH Q H f g) 7 (168 + f) = H (168 + f) := by
        unfold yp_prP
        rw [if_neg (by omega), if_neg (by omega), if_neg (by omega)]
      rw [e9] at r9
      refine ⟨up2 m2 (B + 533) (168 + f) (H (168 + f) + yp_N 1), ?_, l2.up _ _, ?_⟩
      · simp (disch := omega) only [fX12_isParted, hA, hX, e1, e2, h1, h2, k1, fX12_isParted_j56, l1, fX12_isParted_j143, r9, Nat.reduceLeDiff, Nat.reduceLT, Nat.reduceAdd, Nat.reduceMul, Nat.reduceSub, Nat.reduceEqDiff, Nat.le_refl, Nat.lt_irrefl, Nat.zero_add, Nat.add_zero, yp_LT, yp_nA, yp_nM, yp_leN, yp_ltN, yp_eqN, lt1, yp_sb, yp_sb2, if_false, if_true]
      · refine yp_Fr.up ((k3.mono (fun a j h => ?_)).tr (l3.mono (fun a j h => ?_))) ?_
        · unfold yp_TQ; omega
        · unfold yp_FS at h; unfold yp_TQ; omega
        · unfold yp_TQ; omega
  · refine .inl ⟨fun h => h1 h.1, ?_⟩
    simp (disch := omega) only [fX12_isParted, fX12_isParted_j16, hA, e1, h1, (show (1 = 0) = False by simp only [eq_iff_iff, iff_false]; omega), Nat.reduceLeDiff, Nat.reduceLT, Nat.reduceAdd, Nat.reduceMul, Nat.reduceSub, Nat.reduceEqDiff, Nat.le_refl, Nat.lt_irrefl, Nat.zero_add, Nat.add_zero, yp_LT, yp_nA, yp_nM, yp_leN, yp_ltN, yp_eqN, lt1, yp_sb, yp_sb2, if_false, if_true]
set_option maxHeartbeats 1000000 in
theorem yp_or0 (a : Int32) : a ||| yp_N 0 = a := Int32.or_zero
set_option maxHeartbeats 1000000 in
theorem yp_m_comes (hE : yp_EV Q) (hC : yp_CLm B mm Q) (hM : yp_HM mm (B + 533) H) (f g : Nat) (hf : f < 6) (hg : g < yp_qg Q) : ∃ mm', fX12_comesBack (yp_SH B) (B + 517) (yp_N f) (yp_N g) mm = some (yp_jb Q H f g, mm') ∧ yp_Fr (yp_TM B) mm mm' := by
  have hA := yp_refS B
  have hX := yp_mS B
  simp (disch := omega) only [fX12_comesBack, Nat.reduceLeDiff, Nat.reduceLT, Nat.reduceAdd, Nat.reduceMul, Nat.reduceSub, Nat.reduceEqDiff, Nat.le_refl, Nat.lt_irrefl, Nat.zero_add, Nat.add_zero, yp_LT, yp_nA, yp_nM, yp_leN, yp_ltN, yp_eqN, lt1, yp_sb, yp_sb2, if_false, if_true]
  obtain ⟨r, k1, k2, k3⟩ := yp_lpI (step := fun st : Int32 × Int32 × Mem => fX12_comesBack_b5 (yp_SH B) (B + 517) (yp_N f) (yp_N g) st.1 st.2.1 st.2.2) (fun k st => ∃ m, st = (if yp_qk Q g = yp_N 0 then yp_N 0 else yp_fo (yp_jbG Q H f g) k (yp_N 0), yp_N k, m) ∧ yp_Fr (yp_TM B) mm m) (fun r => r.1 = yp_jb Q H f g ∧ yp_Fr (yp_TM B) mm r.2) 7 (fun k st hk hI => by
    obtain ⟨m, rfl, hF⟩ := hI
    by_cases hk7 : k = 7
    · subst hk7
      exact .inr ⟨(_, m), by simp (disch := omega) only [fX12_comesBack_b5, Nat.reduceLeDiff, Nat.reduceLT, Nat.reduceAdd, Nat.reduceMul, Nat.reduceSub, Nat.reduceEqDiff, Nat.le_refl, Nat.lt_irrefl, Nat.zero_add, Nat.add_zero, yp_LT, yp_nA, yp_nM, yp_leN, yp_ltN, yp_eqN, lt1, yp_sb, yp_sb2, if_false, if_true]; rfl, rfl, hF⟩
    · have hHm : yp_HM m (B + 533) H := hM.same (fun j => hF _ j (by unfold yp_TM; omega))
      have hCm : yp_CLm B m Q := hC.fr (fun a j h => hF a j (by unfold yp_TM; omega))
      have e1 := yp_m_joins hE hCm g hg
      by_cases h1 : yp_qk Q g = yp_N 0
      · refine .inr ⟨(yp_N 0, m), ?_, by unfold yp_jb; rw [if_pos h1], hF⟩
        simp (disch := omega) only [fX12_comesBack_b5, hA, e1, h1, (show (7 ≤ k) = False by simp only [eq_iff_iff, iff_false]; omega), Nat.reduceLeDiff, Nat.reduceLT, Nat.reduceAdd, Nat.reduceMul, Nat.reduceSub, Nat.reduceEqDiff, Nat.le_refl, Nat.lt_irrefl, Nat.zero_add, Nat.add_zero, yp_LT, yp_nA, yp_nM, yp_leN, yp_ltN, yp_eqN, lt1, yp_sb, yp_sb2, if_false, if_true]
      · have r1 := hHm (42 + (f * 7 + k)) (by omega)
        by_cases h2 : H (42 + (f * 7 + k)) ≤ yp_N 0
        · refine .inl ⟨by omega, (if yp_qk Q g = yp_N 0 then yp_N 0 else yp_fo (yp_jbG Q H f g) (k + 1) (yp_N 0), yp_N (k + 1), m), ?_, m, rfl, hF⟩
          have e3 : yp_fo (yp_jbG Q H f g) (k + 1) (yp_N 0) = yp_fo (yp_jbG Q H f g) k (yp_N 0) := by
            show yp_jbG Q H f g k _ = _
            unfold yp_jbG
            rw [if_pos h2]
          rw [e3]
          simp (disch := omega) only [fX12_comesBack_b5, fX12_comesBack_j75, fX12_comesBack_j74, hA, hX, yp_m_in, e1, h1, r1, h2, (show (7 ≤ k) = False by simp only [eq_iff_iff, iff_false]; omega), yp_or0, Nat.reduceLeDiff, Nat.reduceLT, Nat.reduceAdd, Nat.reduceMul, Nat.reduceSub, Nat.reduceEqDiff, Nat.le_refl, Nat.lt_irrefl, Nat.zero_add, Nat.add_zero, yp_LT, yp_nA, yp_nM, yp_leN, yp_ltN, yp_eqN, lt1, yp_sb, yp_sb2, if_false, if_true]
        · obtain ⟨m', t1, t2⟩ := yp_m_turnsBy hE hCm hHm f k g (H (42 + (f * 7 + k))) hf (by omega) hg
          have r2 : m' (B + 533) (84 + (f * 7 + k)) = H (84 + (f * 7 + k)) := (t2 _ _ (by unfold yp_TM; omega)).trans (hHm (84 + (f * 7 + k)) (by omega))
          refine .inl ⟨by omega, (if yp_qk Q g = yp_N 0 then yp_N 0 else yp_fo (yp_jbG Q H f g) (k + 1) (yp_N 0), yp_N (k + 1), m'), ?_, m', rfl, hF.tr t2⟩
          have e3 : yp_fo (yp_jbG Q H f g) (k + 1) (yp_N 0) = if yp_TV Q H f k g (H (42 + (f * 7 + k))) = H (84 + (f * 7 + k)) then yp_fo (yp_jbG Q H f g) k (yp_N 0) ||| yp_b1 k else yp_fo (yp_jbG Q H f g) k (yp_N 0) := by
            show yp_jbG Q H f g k _ = _
            generalize yp_fo (yp_jbG Q H f g) k (yp_N 0) = z
            unfold yp_jbG
            rw [if_neg h2]
            by_cases e : H (84 + (f * 7 + k)) = yp_TV Q H f k g (H (42 + (f * 7 + k)))
            · rw [if_pos e, if_pos e.symm]
            · rw [if_neg e, if_neg (fun e2 => e e2.symm)]
          rw [e3]
          simp (disch := omega) only [fX12_comesBack_b5, fX12_comesBack_j75, fX12_comesBack_j74, hA, hX, yp_m_in, e1, h1, r1, r2, h2, (show (7 ≤ k) = False by simp only [eq_iff_iff, iff_false]; omega), t1, yp_b1, yp_or0, Nat.reduceLeDiff, Nat.reduceLT, Nat.reduceAdd, Nat.reduceMul, Nat.reduceSub, Nat.reduceEqDiff, Nat.le_refl, Nat.lt_irrefl, Nat.zero_add, Nat.add_zero, yp_LT, yp_nA, yp_nM, yp_leN, yp_ltN, yp_eqN, lt1, yp_sb, yp_sb2, if_false, if_true]
          split <;> rfl) (show 7 < FU by rw [yp_FUe]; omega) (s0 := (yp_N 0, yp_N 0, mm)) ⟨mm, by unfold yp_fo; split <;> rfl, yp_Fr.rf⟩
  rw [k1]
  refine ⟨r.2, ?_, k3⟩
  simp only [yp_sb, fX12_comesBack_j83, k2]
set_option maxHeartbeats 1000000 in
theorem yp_m_joinBy (hE : yp_EV Q) (hC : yp_CLm B mm Q) (hM : yp_HM mm (B + 533) H) (f g : Nat) (hf : f < 6) (hg : g < yp_qg Q) : ∃ mm', fX12_isJoined (yp_SH B) (B + 517) (yp_N f) (yp_N g) mm = some (if yp_jb Q H f g = yp_N 0 then yp_N 0 else yp_N 1, mm') ∧ yp_HM mm' (B + 533) (yp_jnd Q H f g) ∧ yp_Fr (yp_TQ B) mm mm' := by
  have hA := yp_refS B
  have hX := yp_mS B
  obtain ⟨m1, k1, k2⟩ := yp_m_comes hE hC hM f g hf hg
  have hH1 : yp_HM m1 (B + 533) H := hM.same (fun j => k2 _ j (by unfold yp_TM; omega))
  obtain ⟨m2, l1, l2, l3⟩ := yp_lpI (step := fun st : Int32 × Mem => fX12_isJoined_b10 (yp_SH B) (B + 517) (yp_N f) (yp_jb Q H f g) st.1 st.2) (fun k st => ∃ m, st = (yp_N k, m) ∧ yp_HM m (B + 533) (yp_jnP H f (yp_jb Q H f g) k) ∧ yp_Fr (yp_FS B) m1 m) (fun m => yp_HM m (B + 533) (yp_jnP H f (yp_jb Q H f g) 7) ∧ yp_Fr (yp_FS B) m1 m) 7 (fun k st hk hI => by
    obtain ⟨m, rfl, hs, hF⟩ := hI
    by_cases hk7 : k = 7
    · subst hk7
      exact .inr ⟨m, by simp (disch := omega) only [fX12_isJoined_b10, Nat.reduceLeDiff, Nat.reduceLT, Nat.reduceAdd, Nat.reduceMul, Nat.reduceSub, Nat.reduceEqDiff, Nat.le_refl, Nat.lt_irrefl, Nat.zero_add, Nat.add_zero, yp_LT, yp_nA, yp_nM, yp_leN, yp_ltN, yp_eqN, lt1, yp_sb, yp_sb2, if_false, if_true], hs, hF⟩
    · have r1 := hs (f * 7 + k) (by omega)
      have r2 := hs (42 + (f * 7 + k)) (by omega)
      rw [yp_jnP_a H f hf _ k (by omega)] at r1
      rw [yp_jnP_b H f hf _ k (by omega)] at r2
      rcases yp_bt01 (yp_jb Q H f g) k with hc | hc
      · refine .inl ⟨by omega, (yp_N (k + 1), m), ?_, m, rfl, ?_, hF⟩
        · have hc' := hc
          unfold yp_bt at hc'
          simp (disch := omega) only [fX12_isJoined_b10, fX12_isJoined_j71, hX, yp_m_in, r1, r2, (show (7 ≤ k) = False by simp only [eq_iff_iff, iff_false]; omega), hc', Nat.reduceLeDiff, Nat.reduceLT, Nat.reduceAdd, Nat.reduceMul, Nat.reduceSub, Nat.reduceEqDiff, Nat.le_refl, Nat.lt_irrefl, Nat.zero_add, Nat.add_zero, yp_LT, yp_nA, yp_nM, yp_leN, yp_ltN, yp_eqN, lt1, yp_sb, yp_sb2, if_false, if_true]
        · rw [yp_jnP_s1 H f hf _ k (by omega) (by rw [hc]; decide)]
          exact hs
      · refine .inl ⟨by omega, (yp_N (k + 1), up2 (up2 m (B + 533) (f * 7 + k) (H (f * 7 + k) + H (42 + (f * 7 + k)))) (B + 533) (42 + (f * 7 + k)) (yp_N 0)), ?_, _, rfl, ?_, ?_⟩
        · have hc' := hc
          unfold yp_bt at hc'
          simp (disch := omega) only [fX12_isJoined_b10, fX12_isJoined_j71, hX, yp_m_in, r1, r2, (show (7 ≤ k) = False by simp only [eq_iff_iff, iff_false]; omega), hc', (show (1 = 0) = False by simp only [eq_iff_iff, iff_false]; omega), Nat.reduceLeDiff, Nat.reduceLT, Nat.reduceAdd, Nat.reduceMul, Nat.reduceSub, Nat.reduceEqDiff, Nat.le_refl, Nat.lt_irrefl, Nat.zero_add, Nat.add_zero, yp_LT, yp_nA, yp_nM, yp_leN, yp_ltN, yp_eqN, lt1, yp_sb, yp_sb2, if_false, if_true]
        · rw [yp_jnP_s2 H f hf _ k (by omega) hc]
          exact (hs.up _ _).up _ _
        · exact (hF.up rfl).up rfl) (show 7 < FU by rw [yp_FUe]; omega) (s0 := (yp_N 0, m1)) ⟨m1, rfl, by rw [yp_jnP0]; exact hH1, yp_Fr.rf⟩
  refine ⟨m2, ?_, l2, ?_⟩
  · simp (disch := omega) only [fX12_isJoined, hA, k1, l1, fX12_isJoined_j77, fX12_isJoined_j86, yp_ck0, yp_ck1, Nat.reduceLeDiff, Nat.reduceLT, Nat.reduceAdd, Nat.reduceMul, Nat.reduceSub, Nat.reduceEqDiff, Nat.le_refl, Nat.lt_irrefl, Nat.zero_add, Nat.add_zero, yp_LT, yp_nA, yp_nM, yp_leN, yp_ltN, yp_eqN, lt1, yp_sb, yp_sb2, if_false, if_true]
    split <;> rfl
  · refine (k2.mono (fun a j h => ?_)).tr (l3.mono (fun a j h => ?_))
    · unfold yp_TM at h; unfold yp_TQ; omega
    · unfold yp_FS at h; unfold yp_TQ; omega
end OPTM

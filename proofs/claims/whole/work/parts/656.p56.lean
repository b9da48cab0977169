noncomputable def yp_dnV (Q : yp_EnvT) (H : Nat → Int32) (x : yp_Rw) : Nat × (Nat → Int32) :=
  if x.1 = 0 then @ite _ (yp_doesP Q H x.2.1 x.2.2.1) (Classical.propDecidable _) (1, yp_prt Q H x.2.1 x.2.2.1) (0, H)
  else if x.1 = 1 then (if yp_jb Q H x.2.1 x.2.2.1 = yp_N 0 then 0 else 1, yp_jnd Q H x.2.1 x.2.2.1)
  else if x.1 = 2 then (if yp_N x.2.2.2.1 ≤ H (x.2.1 * 7 + x.2.2.1) then (1, yp_mov H (x.2.1 * 7 + x.2.2.1) (126 + (x.2.1 * 7 + x.2.2.1)) (yp_N x.2.2.2.1)) else (0, H))
  else if x.1 = 3 then (if yp_N x.2.2.2.1 ≤ H (126 + (x.2.1 * 7 + x.2.2.1)) then (1, yp_mov H (126 + (x.2.1 * 7 + x.2.2.1)) (x.2.1 * 7 + x.2.2.1) (yp_N x.2.2.2.1)) else (0, H))
  else if x.1 = 4 then (if H (x.2.1 * 7 + x.2.2.2.1) = H (x.2.2.1 * 7 + x.2.2.2.1) then (0, H) else (1, yp_swp H (x.2.1 * 7 + x.2.2.2.1) (x.2.2.1 * 7 + x.2.2.2.1)))
  else (if H 174 < yp_N 400 then (1, yp_dayH H) else (0, H))
set_option maxHeartbeats 1000000 in
theorem yp_ite_p {α : Type} {c : Prop} {h : Decidable c} {a b : α} (hc : c) : @ite α c h a b = a := if_pos hc
set_option maxHeartbeats 1000000 in
theorem yp_ite_n {α : Type} {c : Prop} {h : Decidable c} {a b : α} (hc : ¬ c) : @ite α c h a b = b := if_neg hc
section DONE
variable {B : Nat} {Q : yp_EnvT} {H : Nat → Int32}
set_option maxHeartbeats 1000000 in
theorem yp_dnV_le (x : yp_Rw) : (yp_dnV Q H x).1 ≤ 1 := by
  unfold yp_dnV
  by_cases k0 : x.1 = 0
  · rw [if_pos k0]
    by_cases h : yp_doesP Q H x.2.1 x.2.2.1
    · rw [yp_ite_p h]; exact Nat.le_refl 1
    · rw [yp_ite_n h]; exact Nat.zero_le 1
  · rw [if_neg k0]
    by_cases k1 : x.1 = 1
    · rw [if_pos k1]; dsimp only; split <;> omega
    · rw [if_neg k1]
      by_cases k2 : x.1 = 2
      · rw [if_pos k2]; split <;> (dsimp only; omega)
      · rw [if_neg k2]
        by_cases k3 : x.1 = 3
        · rw [if_pos k3]; split <;> (dsimp only; omega)
        · rw [if_neg k3]
          by_cases k4 : x.1 = 4
          · rw [if_pos k4]; split <;> (dsimp only; omega)
          · rw [if_neg k4]; split <;> (dsimp only; omega)
def yp_smp (nf ng : Nat) (x : yp_Rw) : Prop := (x.1 < 2 ∧ x.2.1 < nf ∧ x.2.2.1 < ng) ∨ ((x.1 = 2 ∨ x.1 = 3) ∧ x.2.1 < nf ∧ x.2.2.1 < 7 ∧ 1 ≤ x.2.2.2.1 ∧ x.2.2.2.1 ≤ 40) ∨ (x.1 = 4 ∧ x.2.1 < nf ∧ x.2.2.1 < nf ∧ x.2.2.2.1 < 7) ∨ x.1 = 5
set_option maxHeartbeats 1000000 in
theorem yp_rw_smp {nf ng o b k : Nat} {R : Nat → yp_Rw} (h : yp_rwOK nf ng o b R k) (h6 : (R k).1 ≠ 6) : yp_smp nf ng (R k) := by
  rcases h.2 with q | q | q | q | q
  · exact .inl q
  · exact .inr (.inl q)
  · exact .inr (.inr (.inl q))
  · exact .inr (.inr (.inr q))
  · exact absurd q.1 h6
set_option maxHeartbeats 1000000 in
theorem yp_dnV_HI {x : yp_Rw} {ng : Nat} (hE : yp_EV Q) (hH : yp_HI Q H) (h : yp_smp (yp_qf Q) ng x) : yp_HI Q (yp_dnV Q H x).2 := by
  have hq := hE.1
  unfold yp_smp at h
  unfold yp_dnV
  by_cases k0 : x.1 = 0
  · rw [if_pos k0]
    by_cases hd : yp_doesP Q H x.2.1 x.2.2.1
    · rw [yp_ite_p hd]; exact hH.prt hE _ _ (by omega)
    · rw [yp_ite_n hd]; exact hH
  · rw [if_neg k0]
    by_cases k1 : x.1 = 1
    · rw [if_pos k1]; exact hH.jnd _ _ (by omega)
    · rw [if_neg k1]
      by_cases k2 : x.1 = 2
      · rw [if_pos k2]
        by_cases c : yp_N x.2.2.2.1 ≤ H (x.2.1 * 7 + x.2.2.1)
        · rw [if_pos c]; exact hH.take _ (by omega) _ (by rw [yp_tiN (by omega)]; omega) c
        · rw [if_neg c]; exact hH
      · rw [if_neg k2]
        by_cases k3 : x.1 = 3
        · rw [if_pos k3]
          by_cases c : yp_N x.2.2.2.1 ≤ H (126 + (x.2.1 * 7 + x.2.2.1))
          · rw [if_pos c]; exact hH.give _ (by omega) _ (by rw [yp_tiN (by omega)]; omega) c
          · rw [if_neg c]; exact hH
        · rw [if_neg k3]
          by_cases k4 : x.1 = 4
          · rw [if_pos k4]
            by_cases c : H (x.2.1 * 7 + x.2.2.2.1) = H (x.2.2.1 * 7 + x.2.2.2.1)
            · rw [if_pos c]; exact hH
            · rw [if_neg c]; exact hH.swp _ _ (by omega) (by omega) hq c
          · rw [if_neg k4]
            by_cases c : H 174 < yp_N 400
            · rw [if_pos c]; exact hH.day
            · rw [if_neg c]; exact hH
set_option maxHeartbeats 1000000 in
theorem yp_wspL (B : Nat) : (∀ mm k, k < 150 → aL (yp_SH B) mm (B + 28) (yp_N k) = some (mm (B + 28) k)) ∧ (∀ mm k, k < 150 → aL (yp_SH B) mm (B + 29) (yp_N k) = some (mm (B + 29) k)) ∧ (∀ mm k, k < 150 → aL (yp_SH B) mm (B + 30) (yp_N k) = some (mm (B + 30) k)) ∧ (∀ mm k, k < 150 → aL (yp_SH B) mm (B + 31) (yp_N k) = some (mm (B + 31) k)) ∧ (∀ mm k, k < 150 → aL (yp_SH B) mm (B + 32) (yp_N k) = some (mm (B + 32) k)) ∧ rR (yp_SH B) 10 (B + 27) 2 = some (B + 23) ∧ isO (yp_SH B) 5 (B + 23) = some () :=
  ⟨fun mm k h => yp_aLN (yp_sa28 B) mm k h (by omega), fun mm k h => yp_aLN (yp_sa29 B) mm k h (by omega), fun mm k h => yp_aLN (yp_sa30 B) mm k h (by omega), fun mm k h => yp_aLN (yp_sa31 B) mm k h (by omega), fun mm k h => yp_aLN (yp_sa32 B) mm k h (by omega), by rw [rR, yp_so27]; rfl, by rw [isO, yp_so23]; rfl⟩
set_option maxHeartbeats 1000000 in
theorem yp_c_done {m : Mem} {k : Nat} {x : yp_Rw} (hE : yp_EV Q) (hC : yp_CLc B m Q) (hH : yp_HC m (B + 33) H) (hk : k < 150) (hr : yp_rowC B m k x) (hx : yp_smp (yp_qf Q) (yp_qg Q) x) : ∃ m', fX10_isDone (yp_SH B) (B + 27) (B + 33) (yp_N k) m = some (yp_N (yp_dnV Q H x).1, m') ∧ yp_HC m' (B + 33) (yp_dnV Q H x).2 ∧ yp_Fr (yp_TP B (B + 33)) m m' := by
  have hS := yp_wspS B
  have hL := yp_wspL B
  have hX := yp_HSx (yp_hs33 B)
  have hq := hE.1
  have hq2 := hE.2.1
  obtain ⟨r1, r2, r3, r4, r5⟩ := hr
  unfold yp_smp at hx
  have IHm : ∀ {m'}, yp_Fr (yp_IH (B + 33)) m m' → yp_Fr (yp_TP B (B + 33)) m m' := fun h => h.mono (fun a j q => by unfold yp_IH at q; unfold yp_TP; omega)
  by_cases k0 : x.1 = 0
  · have r2 := r2 (by omega)
    have r3 := r3 (by omega)
    rw [k0] at r1
    have e0 : yp_dnV Q H x = @ite _ (yp_doesP Q H x.2.1 x.2.2.1) (Classical.propDecidable _) (1, yp_prt Q H x.2.1 x.2.2.1) (0, H) := by unfold yp_dnV; rw [if_pos k0]
    rcases yp_c_partBy hE hC (yp_hs33 B) hH (by omega) x.2.1 x.2.2.1 (by omega) (by omega) with ⟨a1, a2⟩ | ⟨a1, m', a2, a3, a4⟩
    · rw [yp_ite_n a1] at e0
      rw [e0]
      refine ⟨m, ?_, hH, yp_Fr.rf⟩
      simp (disch := omega) only [↓yp_lt1N, fX10_isDone, hS, hL, r1, r2, r3, a2, yp_ck0, Nat.reduceAdd, Nat.reduceMul, Nat.reduceSub, Nat.zero_add, Nat.add_zero, yp_LT, yp_nA, yp_nM, yp_ltF, yp_ltT, yp_leF, yp_leT, yp_eqF, eq_self, yp_eqM, yp_lt1N, yp_sbN, yp_sb2N, ↓reduceIte, ↓yp_iP11, ↓yp_iP12, ↓yp_m0P]
    · rw [yp_ite_p a1] at e0
      rw [e0]
      refine ⟨m', ?_, a3, a4⟩
      simp (disch := omega) only [↓yp_lt1N, fX10_isDone, hS, hL, r1, r2, r3, a2, yp_ck1, Nat.reduceAdd, Nat.reduceMul, Nat.reduceSub, Nat.zero_add, Nat.add_zero, yp_LT, yp_nA, yp_nM, yp_ltF, yp_ltT, yp_leF, yp_leT, yp_eqF, eq_self, yp_eqM, yp_lt1N, yp_sbN, yp_sb2N, ↓reduceIte, ↓yp_iP11, ↓yp_iP12, ↓yp_m0P]
  · by_cases k1 : x.1 = 1
    · have r2 := r2 (by omega)
      have r3 := r3 (by omega)
      rw [k1] at r1
      obtain ⟨m', a1, a2, a3⟩ := yp_c_joinBy hE hC (yp_hs33 B) hH (by omega) x.2.1 x.2.2.1 (by omega) (by omega)
      have e0 : yp_dnV Q H x = (if yp_jb Q H x.2.1 x.2.2.1 = yp_N 0 then 0 else 1, yp_jnd Q H x.2.1 x.2.2.1) := by unfold yp_dnV; rw [if_neg k0, if_pos k1]
      rw [e0]
      refine ⟨m', ?_, a2, a3⟩
      by_cases c : yp_jb Q H x.2.1 x.2.2.1 = yp_N 0
      · rw [if_pos c] at a1
        rw [if_pos c]
        simp (disch := omega) only [↓yp_lt1N, fX10_isDone, hS, hL, r1, r2, r3, a1, yp_ck0, Nat.reduceAdd, Nat.reduceMul, Nat.reduceSub, Nat.zero_add, Nat.add_zero, yp_LT, yp_nA, yp_nM, yp_ltF, yp_ltT, yp_leF, yp_leT, yp_eqF, eq_self, yp_eqM, yp_lt1N, yp_sbN, yp_sb2N, ↓reduceIte, ↓yp_iP11, ↓yp_iP12, ↓yp_m0P]
      · rw [if_neg c] at a1
        rw [if_neg c]
        simp (disch := omega) only [↓yp_lt1N, fX10_isDone, hS, hL, r1, r2, r3, a1, yp_ck1, Nat.reduceAdd, Nat.reduceMul, Nat.reduceSub, Nat.zero_add, Nat.add_zero, yp_LT, yp_nA, yp_nM, yp_ltF, yp_ltT, yp_leF, yp_leT, yp_eqF, eq_self, yp_eqM, yp_lt1N, yp_sbN, yp_sb2N, ↓reduceIte, ↓yp_iP11, ↓yp_iP12, ↓yp_m0P]
    · by_cases k2 : x.1 = 2
      · have r2 := r2 (by omega)
        have r3 := r3 (by omega)
        have r4 := r4 (by omega) (by omega)
        rw [k2] at r1
        have e0 : yp_dnV Q H x = (if yp_N x.2.2.2.1 ≤ H (x.2.1 * 7 + x.2.2.1) then (1, yp_mov H (x.2.1 * 7 + x.2.2.1) (126 + (x.2.1 * 7 + x.2.2.1)) (yp_N x.2.2.2.1)) else (0, H)) := by unfold yp_dnV; rw [if_neg k0, if_neg k1, if_pos k2]
        rcases yp_h_take (yp_hs33 B) hH (x.2.1 * 7 + x.2.2.1) (yp_N x.2.2.2.1) (by omega) with ⟨a1, a2⟩ | ⟨a1, m', a2, a3, a4⟩
        · rw [if_neg a1] at e0
          rw [e0]
          refine ⟨m, ?_, hH, yp_Fr.rf⟩
          simp (disch := omega) only [↓yp_lt1N, fX10_isDone, hS, hL, hX, r1, r2, r3, r4, a2, yp_ck0, Nat.reduceAdd, Nat.reduceMul, Nat.reduceSub, Nat.zero_add, Nat.add_zero, yp_LT, yp_nA, yp_nM, yp_ltF, yp_ltT, yp_leF, yp_leT, yp_eqF, eq_self, yp_eqM, yp_lt1N, yp_sbN, yp_sb2N, ↓reduceIte, ↓yp_iP11, ↓yp_iP12, ↓yp_m0P]
        · rw [if_pos a1] at e0
          rw [e0]
          refine ⟨m', ?_, a3, IHm a4⟩
          simp (disch := omega) only [↓yp_lt1N, fX10_isDone, hS, hL, hX, r1, r2, r3, r4, a2, yp_ck1, Nat.reduceAdd, Nat.reduceMul, Nat.reduceSub, Nat.zero_add, Nat.add_zero, yp_LT, yp_nA, yp_nM, yp_ltF, yp_ltT, yp_leF, yp_leT, yp_eqF, eq_self, yp_eqM, yp_lt1N, yp_sbN, yp_sb2N, ↓reduceIte, ↓yp_iP11, ↓yp_iP12, ↓yp_m0P]
      · by_cases k3 : x.1 = 3
        · have r2 := r2 (by omega)
          have r3 := r3 (by omega)
          have r4 := r4 (by omega) (by omega)
          rw [k3] at r1
          have e0 : yp_dnV Q H x = (if yp_N x.2.2.2.1 ≤ H (126 + (x.2.1 * 7 + x.2.2.1)) then (1, yp_mov H (126 + (x.2.1 * 7 + x.2.2.1)) (x.2.1 * 7 + x.2.2.1) (yp_N x.2.2.2.1)) else (0, H)) := by unfold yp_dnV; rw [if_neg k0, if_neg k1, if_neg k2, if_pos k3]
          rcases yp_h_give (yp_hs33 B) hH (x.2.1 * 7 + x.2.2.1) (yp_N x.2.2.2.1) (by omega) with ⟨a1, a2⟩ | ⟨a1, m', a2, a3, a4⟩
          · rw [if_neg a1] at e0
            rw [e0]
            refine ⟨m, ?_, hH, yp_Fr.rf⟩
            simp (disch := omega) only [↓yp_lt1N, fX10_isDone, hS, hL, hX, r1, r2, r3, r4, a2, yp_ck0, Nat.reduceAdd, Nat.reduceMul, Nat.reduceSub, Nat.zero_add, Nat.add_zero, yp_LT, yp_nA, yp_nM, yp_ltF, yp_ltT, yp_leF, yp_leT, yp_eqF, eq_self, yp_eqM, yp_lt1N, yp_sbN, yp_sb2N, ↓reduceIte, ↓yp_iP11, ↓yp_iP12, ↓yp_m0P]
          · rw [if_pos a1] at e0
            rw [e0]
            refine ⟨m', ?_, a3, IHm a4⟩
            simp (disch := omega) only [↓yp_lt1N, fX10_isDone, hS, hL, hX, r1, r2, r3, r4, a2, yp_ck1, Nat.reduceAdd, Nat.reduceMul, Nat.reduceSub, Nat.zero_add, Nat.add_zero, yp_LT, yp_nA, yp_nM, yp_ltF, yp_ltT, yp_leF, yp_leT, yp_eqF, eq_self, yp_eqM, yp_lt1N, yp_sbN, yp_sb2N, ↓reduceIte, ↓yp_iP11, ↓yp_iP12, ↓yp_m0P]
        · by_cases k4 : x.1 = 4
          · have r2 := r2 (by omega)
            have r3 := r3 (by omega)
            have r4 := r4 (by omega) (by omega)
            rw [k4] at r1
            have e0 : yp_dnV Q H x = (if H (x.2.1 * 7 + x.2.2.2.1) = H (x.2.2.1 * 7 + x.2.2.2.1) then (0, H) else (1, yp_swp H (x.2.1 * 7 + x.2.2.2.1) (x.2.2.1 * 7 + x.2.2.2.1))) := by unfold yp_dnV; rw [if_neg k0, if_neg k1, if_neg k2, if_neg k3, if_pos k4]
            rcases yp_h_change (yp_hs33 B) hH (x.2.1 * 7 + x.2.2.2.1) (x.2.2.1 * 7 + x.2.2.2.1) (by omega) (by omega) with ⟨a1, a2⟩ | ⟨a1, m', a2, a3, a4⟩
            · rw [if_pos a1] at e0
              rw [e0]
              refine ⟨m, ?_, hH, yp_Fr.rf⟩
              simp (disch := omega) only [↓yp_lt1N, fX10_isDone, hS, hL, hX, r1, r2, r3, r4, a2, yp_ck0, Nat.reduceAdd, Nat.reduceMul, Nat.reduceSub, Nat.zero_add, Nat.add_zero, yp_LT, yp_nA, yp_nM, yp_ltF, yp_ltT, yp_leF, yp_leT, yp_eqF, eq_self, yp_eqM, yp_lt1N, yp_sbN, yp_sb2N, ↓reduceIte, ↓yp_iP11, ↓yp_iP12, ↓yp_m0P]
            · rw [if_neg a1] at e0
              rw [e0]
              refine ⟨m', ?_, a3, IHm a4⟩
              simp (disch := omega) only [↓yp_lt1N, fX10_isDone, hS, hL, hX, r1, r2, r3, r4, a2, yp_ck1, Nat.reduceAdd, Nat.reduceMul, Nat.reduceSub, Nat.zero_add, Nat.add_zero, yp_LT, yp_nA, yp_nM, yp_ltF, yp_ltT, yp_leF, yp_leT, yp_eqF, eq_self, yp_eqM, yp_lt1N, yp_sbN, yp_sb2N, ↓reduceIte, ↓yp_iP11, ↓yp_iP12, ↓yp_m0P]
          · have k5 : x.1 = 5 := by omega
            rw [k5] at r1
            have e0 : yp_dnV Q H x = (if H 174 < yp_N 400 then (1, yp_dayH H) else (0, H)) := by unfold yp_dnV; rw [if_neg k0, if_neg k1, if_neg k2, if_neg k3, if_neg k4]
            have d0 := hH.2.2.2.2.2
            by_cases c : H 174 < yp_N 400
            · obtain ⟨m', a1, a2, a3⟩ := yp_h_day (yp_hs33 B) hH
              rw [if_pos c] at e0
              rw [e0]
              refine ⟨m', ?_, a2, IHm a3⟩
              simp (disch := omega) only [↓yp_lt1N, fX10_isDone, hS, hL, hX, r1, d0, c, a1, Nat.reduceAdd, Nat.reduceMul, Nat.reduceSub, Nat.zero_add, Nat.add_zero, yp_LT, yp_nA, yp_nM, yp_ltF, yp_ltT, yp_leF, yp_leT, yp_eqF, eq_self, yp_eqM, yp_lt1N, yp_sbN, yp_sb2N, ↓reduceIte, ↓yp_iP11, ↓yp_iP12, ↓yp_m0P]
            · rw [if_neg c] at e0
              rw [e0]
              refine ⟨m, ?_, hH, yp_Fr.rf⟩
              simp (disch := omega) only [↓yp_lt1N, fX10_isDone, hS, hL, hX, r1, d0, c, Nat.reduceAdd, Nat.reduceMul, Nat.reduceSub, Nat.zero_add, Nat.add_zero, yp_LT, yp_nA, yp_nM, yp_ltF, yp_ltT, yp_leF, yp_leT, yp_eqF, eq_self, yp_eqM, yp_lt1N, yp_sbN, yp_sb2N, ↓reduceIte, ↓yp_iP11, ↓yp_iP12, ↓yp_m0P]
set_option maxHeartbeats 1000000 in
theorem yp_m_done {m : Mem} {x : yp_Rw} (hE : yp_EV Q) (hI : yp_HI Q H) (hC : yp_CLm B m Q) (hM : yp_HM m (B + 533) H) (hx : yp_smp (yp_qf Q) (yp_qg Q) x) : ∃ m', fX12_isDone (yp_SH B) (B + 517) (yp_N x.1) (yp_N x.2.1) (yp_N x.2.2.1) (yp_N x.2.2.2.1) m = some (yp_N (yp_dnV Q H x).1, m') ∧ yp_HM m' (B + 533) (yp_dnV Q H x).2 ∧ yp_Fr (yp_TQ B) m m' := by
  have hS := yp_mS B
  have hq := hE.1
  have hq2 := hE.2.1
  unfold yp_smp at hx
  have FSm : ∀ {m'}, yp_Fr (yp_FS B) m m' → yp_Fr (yp_TQ B) m m' := fun h => h.mono (fun a j q => by unfold yp_FS at q; unfold yp_TQ; omega)
  have i0 := yp_m_in 0 x.2.1 x.2.2.1
  have i1 := yp_m_in 126 x.2.1 x.2.2.1
  rw [Nat.zero_add] at i0
  by_cases k0 : x.1 = 0
  · have e0 : yp_dnV Q H x = @ite _ (yp_doesP Q H x.2.1 x.2.2.1) (Classical.propDecidable _) (1, yp_prt Q H x.2.1 x.2.2.1) (0, H) := by unfold yp_dnV; rw [if_pos k0]
    rw [k0]
    rcases yp_m_parted hE hC hM hI.nn0 x.2.1 x.2.2.1 (by omega) (by omega) with ⟨a1, a2⟩ | ⟨a1, m', a2, a3, a4⟩
    · rw [yp_ite_n a1] at e0
      rw [e0]
      refine ⟨m, ?_, hM, yp_Fr.rf⟩
      simp (disch := omega) only [↓yp_lt1N, fX12_isDone, a2, yp_ck0, Nat.reduceAdd, Nat.reduceMul, Nat.reduceSub, Nat.zero_add, Nat.add_zero, yp_LT, yp_nA, yp_nM, yp_ltF, yp_ltT, yp_leF, yp_leT, yp_eqF, eq_self, yp_eqM, yp_lt1N, yp_sbN, yp_sb2N, ↓reduceIte, ↓yp_iP11, ↓yp_iP12, ↓yp_m0P]
    · rw [yp_ite_p a1] at e0
      rw [e0]
      refine ⟨m', ?_, a3, a4⟩
      simp (disch := omega) only [↓yp_lt1N, fX12_isDone, a2, yp_ck1, Nat.reduceAdd, Nat.reduceMul, Nat.reduceSub, Nat.zero_add, Nat.add_zero, yp_LT, yp_nA, yp_nM, yp_ltF, yp_ltT, yp_leF, yp_leT, yp_eqF, eq_self, yp_eqM, yp_lt1N, yp_sbN, yp_sb2N, ↓reduceIte, ↓yp_iP11, ↓yp_iP12, ↓yp_m0P]
  · by_cases k1 : x.1 = 1
    · obtain ⟨m', a1, a2, a3⟩ := yp_m_joinBy hE hC hM x.2.1 x.2.2.1 (by omega) (by omega)
      have e0 : yp_dnV Q H x = (if yp_jb Q H x.2.1 x.2.2.1 = yp_N 0 then 0 else 1, yp_jnd Q H x.2.1 x.2.2.1) := by unfold yp_dnV; rw [if_neg k0, if_pos k1]
      rw [e0, k1]
      refine ⟨m', ?_, a2, a3⟩
      by_cases c : yp_jb Q H x.2.1 x.2.2.1 = yp_N 0
      · rw [if_pos c] at a1
        rw [if_pos c]
        simp (disch := omega) only [↓yp_lt1N, fX12_isDone, a1, yp_ck0, Nat.reduceAdd, Nat.reduceMul, Nat.reduceSub, Nat.zero_add, Nat.add_zero, yp_LT, yp_nA, yp_nM, yp_ltF, yp_ltT, yp_leF, yp_leT, yp_eqF, eq_self, yp_eqM, yp_lt1N, yp_sbN, yp_sb2N, ↓reduceIte, ↓yp_iP11, ↓yp_iP12, ↓yp_m0P]
      · rw [if_neg c] at a1
        rw [if_neg c]
        simp (disch := omega) only [↓yp_lt1N, fX12_isDone, a1, yp_ck1, Nat.reduceAdd, Nat.reduceMul, Nat.reduceSub, Nat.zero_add, Nat.add_zero, yp_LT, yp_nA, yp_nM, yp_ltF, yp_ltT, yp_leF, yp_leT, yp_eqF, eq_self, yp_eqM, yp_lt1N, yp_sbN, yp_sb2N, ↓reduceIte, ↓yp_iP11, ↓yp_iP12, ↓yp_m0P]
    · by_cases k2 : x.1 = 2
      · have e0 : yp_dnV Q H x = (if yp_N x.2.2.2.1 ≤ H (x.2.1 * 7 + x.2.2.1) then (1, yp_mov H (x.2.1 * 7 + x.2.2.1) (126 + (x.2.1 * 7 + x.2.2.1)) (yp_N x.2.2.2.1)) else (0, H)) := by unfold yp_dnV; rw [if_neg k0, if_neg k1, if_pos k2]
        rw [k2]
        rcases yp_m_moved hM (x.2.1 * 7 + x.2.2.1) (126 + (x.2.1 * 7 + x.2.2.1)) (yp_N x.2.2.2.1) (by omega) (by omega) (by omega) with ⟨a1, a2⟩ | ⟨a1, m', a2, a3, a4⟩
        · rw [if_neg a1] at e0
          rw [e0]
          refine ⟨m, ?_, hM, yp_Fr.rf⟩
          simp (disch := omega) only [↓yp_lt1N, fX12_isDone, i0, i1, a2, yp_ck0, Nat.reduceAdd, Nat.reduceMul, Nat.reduceSub, Nat.zero_add, Nat.add_zero, yp_LT, yp_nA, yp_nM, yp_ltF, yp_ltT, yp_leF, yp_leT, yp_eqF, eq_self, yp_eqM, yp_lt1N, yp_sbN, yp_sb2N, ↓reduceIte, ↓yp_iP11, ↓yp_iP12, ↓yp_m0P]
        · rw [if_pos a1] at e0
          rw [e0]
          refine ⟨m', ?_, a3, FSm a4⟩
          simp (disch := omega) only [↓yp_lt1N, fX12_isDone, i0, i1, a2, yp_ck1, Nat.reduceAdd, Nat.reduceMul, Nat.reduceSub, Nat.zero_add, Nat.add_zero, yp_LT, yp_nA, yp_nM, yp_ltF, yp_ltT, yp_leF, yp_leT, yp_eqF, eq_self, yp_eqM, yp_lt1N, yp_sbN, yp_sb2N, ↓reduceIte, ↓yp_iP11, ↓yp_iP12, ↓yp_m0P]
      · by_cases k3 : x.1 = 3
        · have e0 : yp_dnV Q H x = (if yp_N x.2.2.2.1 ≤ H (126 + (x.2.1 * 7 + x.2.2.1)) then (1, yp_mov H (126 + (x.2.1 * 7 + x.2.2.1)) (x.2.1 * 7 + x.2.2.1) (yp_N x.2.2.2.1)) else (0, H)) := by unfold yp_dnV; rw [if_neg k0, if_neg k1, if_neg k2, if_pos k3]
          rw [k3]
          rcases yp_m_moved hM (126 + (x.2.1 * 7 + x.2.2.1)) (x.2.1 * 7 + x.2.2.1) (yp_N x.2.2.2.1) (by omega) (by omega) (by omega) with ⟨a1, a2⟩ | ⟨a1, m', a2, a3, a4⟩
          · rw [if_neg a1] at e0
            rw [e0]
            refine ⟨m, ?_, hM, yp_Fr.rf⟩
            simp (disch := omega) only [↓yp_lt1N, fX12_isDone, i0, i1, a2, yp_ck0, Nat.reduceAdd, Nat.reduceMul, Nat.reduceSub, Nat.zero_add, Nat.add_zero, yp_LT, yp_nA, yp_nM, yp_ltF, yp_ltT, yp_leF, yp_leT, yp_eqF, eq_self, yp_eqM, yp_lt1N, yp_sbN, yp_sb2N, ↓reduceIte, ↓yp_iP11, ↓yp_iP12, ↓yp_m0P]
          · rw [if_pos a1] at e0
            rw [e0]
            refine ⟨m', ?_, a3, FSm a4⟩
            simp (disch := omega) only [↓yp_lt1N, fX12_isDone, i0, i1, a2, yp_ck1, Nat.reduceAdd, Nat.reduceMul, Nat.reduceSub, Nat.zero_add, Nat.add_zero, yp_LT, yp_nA, yp_nM, yp_ltF, yp_ltT, yp_leF, yp_leT, yp_eqF, eq_self, yp_eqM, yp_lt1N, yp_sbN, yp_sb2N, ↓reduceIte, ↓yp_iP11, ↓yp_iP12, ↓yp_m0P]
        · by_cases k4 : x.1 = 4
          · have e0 : yp_dnV Q H x = (if H (x.2.1 * 7 + x.2.2.2.1) = H (x.2.2.1 * 7 + x.2.2.2.1) then (0, H) else (1, yp_swp H (x.2.1 * 7 + x.2.2.2.1) (x.2.2.1 * 7 + x.2.2.2.1))) := by unfold yp_dnV; rw [if_neg k0, if_neg k1, if_neg k2, if_neg k3, if_pos k4]
            rw [k4]
            rcases yp_m_swap hM x.2.1 x.2.2.1 x.2.2.2.1 (by omega) (by omega) (by omega) with ⟨a1, a2⟩ | ⟨a1, m', a2, a3, a4⟩
            · rw [if_pos a1] at e0
              rw [e0]
              refine ⟨m, ?_, hM, yp_Fr.rf⟩
              simp (disch := omega) only [↓yp_lt1N, fX12_isDone, a2, yp_ck0, Nat.reduceAdd, Nat.reduceMul, Nat.reduceSub, Nat.zero_add, Nat.add_zero, yp_LT, yp_nA, yp_nM, yp_ltF, yp_ltT, yp_leF, yp_leT, yp_eqF, eq_self, yp_eqM, yp_lt1N, yp_sbN, yp_sb2N, ↓reduceIte, ↓yp_iP11, ↓yp_iP12, ↓yp_m0P]
            · rw [if_neg a1] at e0
              rw [e0]
              refine ⟨m', ?_, a3, FSm a4⟩
              simp (disch := omega) only [↓yp_lt1N, fX12_isDone, a2, yp_ck1, Nat.reduceAdd, Nat.reduceMul, Nat.reduceSub, Nat.zero_add, Nat.add_zero, yp_LT, yp_nA, yp_nM, yp_ltF, yp_ltT, yp_leF, yp_leT, yp_eqF, eq_self, yp_eqM, yp_lt1N, yp_sbN, yp_sb2N, ↓reduceIte, ↓yp_iP11, ↓yp_iP12, ↓yp_m0P]
          · have k5 : x.1 = 5 := by omega
            rw [k5]
            have e0 : yp_dnV Q H x = (if H 174 < yp_N 400 then (1, yp_dayH H) else (0, H)) := by unfold yp_dnV; rw [if_neg k0, if_neg k1, if_neg k2, if_neg k3, if_neg k4]
            have d0 := hM 174 (by omega)
            by_cases c : H 174 < yp_N 400
            · obtain ⟨m', a1, a2, a3⟩ := yp_m_day hM
              rw [if_pos c] at e0
              rw [e0]
              refine ⟨m', ?_, a2, FSm a3⟩
              simp (disch := omega) only [↓yp_lt1N, fX12_isDone, hS, d0, c, a1, Nat.reduceAdd, Nat.reduceMul, Nat.reduceSub, Nat.zero_add, Nat.add_zero, yp_LT, yp_nA, yp_nM, yp_ltF, yp_ltT, yp_leF, yp_leT, yp_eqF, eq_self, yp_eqM, yp_lt1N, yp_sbN, yp_sb2N, ↓reduceIte, ↓yp_iP11, ↓yp_iP12, ↓yp_m0P]
            · rw [if_neg c] at e0
              rw [e0]
              refine ⟨m, ?_, hM, yp_Fr.rf⟩
              simp (disch := omega) only [↓yp_lt1N, fX12_isDone, hS, d0, c, Nat.reduceAdd, Nat.reduceMul, Nat.reduceSub, Nat.zero_add, Nat.add_zero, yp_LT, yp_nA, yp_nM, yp_ltF, yp_ltT, yp_leF, yp_leT, yp_eqF, eq_self, yp_eqM, yp_lt1N, yp_sbN, yp_sb2N, ↓reduceIte, ↓yp_iP11, ↓yp_iP12, ↓yp_m0P]
end DONE

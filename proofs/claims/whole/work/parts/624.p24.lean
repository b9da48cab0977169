section ASK8
variable {B : Nat} {mm : Mem} {A : yp_St}
set_option maxHeartbeats 1000000 in
theorem yp_lpS {S X : Type} {step : S → Option (S ⊕ X)} (n : Nat) (s : S) : loopN step (n + 1) s = (step s).bind fun y => match y with
    | .inl t => loopN step n t
    | .inr x => some x := rfl
def yp_lkN (v w : Nat) : Nat := if v = 0 then (if w = 0 then 4 else 3) else (if w = 0 then 3 else 2)
def yp_lkF (v w : Nat) : Int32 := if w = 0 then yp_N 0 else yp_N 1
def yp_lkT (v w : Nat) : Int32 := if w = 0 then yp_N 0 else yp_N (v + w)
set_option maxHeartbeats 1000000 in
theorem yp_lk_c (v w x3 : Nat) (hv : v ≤ 99) (hw : w ≤ 99) : loopN (fun st : Int32 × Int32 × Int32 × Int32 => fX11_lookers_b50 (yp_SH B) (yp_N v) (yp_N w) (yp_N x3) st.1 st.2.1 st.2.2.1 st.2.2.2 mm) FU (yp_N 0, -yp_N 1, yp_N 0, yp_N 0) = some (yp_N (yp_lkN v w), yp_lkF v w, yp_lkT v w) := by
  have inner : ∀ (o : Nat) (a b c : Int32) (r : Int32 × Int32 × Int32), loopN (fun st : Int32 × Int32 × Int32 × Int32 => fX11_lookers_b59 (yp_SH B) (yp_N v) (yp_N w) (yp_N x3) (yp_N o) st.1 st.2.1 st.2.2.1 st.2.2.2 mm) 3 (a, b, c, yp_N 0) = some r → loopN (fun st : Int32 × Int32 × Int32 × Int32 => fX11_lookers_b59 (yp_SH B) (yp_N v) (yp_N w) (yp_N x3) (yp_N o) st.1 st.2.1 st.2.2.1 st.2.2.2 mm) FU (a, b, c, yp_N 0) = some r := fun o a b c r h => yp_lpM h (by rw [yp_FUe]; omega)
  have e11 : yp_N 1 - yp_N 1 = yp_N 0 := rfl
  have e10 : yp_N 1 - yp_N 0 = yp_N 1 := rfl
  refine yp_lpM (n := 3) ?_ (by rw [yp_FUe]; omega)
  by_cases hv0 : v = 0
  · by_cases hw0 : w = 0
    · subst hv0 hw0
      have i0 := inner 0 (yp_N 0) (-yp_N 1) (yp_N 0) (yp_N 2, yp_N 0, yp_N 0) (by simp (disch := omega) only [yp_lpS, fX11_lookers_b59, fX11_lookers_j131, fX11_lookers_j128, fX11_wouldStay_j24, fX11_wouldStay, fX11_gain_j18, fX11_gain, e11, e10, yp_ck0, yp_ck1, Nat.reduceAdd, Nat.reduceMul, Nat.reduceSub, Nat.zero_add, Nat.add_zero, yp_LT, yp_nA, yp_nM, yp_ltF, yp_ltT, yp_leF, yp_leT, yp_eqF, eq_self, yp_eqM, lt1, yp_sbN, yp_sb2N, ↓reduceIte, ↓yp_iP11, ↓yp_iP12, ↓yp_m0P])
      have i1 := inner 1 (yp_N 2) (yp_N 0) (yp_N 0) (yp_N 4, yp_N 0, yp_N 0) (by simp (disch := omega) only [yp_lpS, fX11_lookers_b59, fX11_lookers_j131, fX11_lookers_j128, fX11_wouldStay_j24, fX11_wouldStay, fX11_gain_j18, fX11_gain, e11, e10, yp_ck0, yp_ck1, Nat.reduceAdd, Nat.reduceMul, Nat.reduceSub, Nat.zero_add, Nat.add_zero, yp_LT, yp_nA, yp_nM, yp_ltF, yp_ltT, yp_leF, yp_leT, yp_eqF, eq_self, yp_eqM, lt1, yp_sbN, yp_sb2N, ↓reduceIte, ↓yp_iP11, ↓yp_iP12, ↓yp_m0P])
      simp (disch := omega) only [yp_lpS, fX11_lookers_b50, fX11_lookers_j137, i0, i1, yp_lkN, yp_lkF, yp_lkT, Nat.reduceAdd, Nat.reduceMul, Nat.reduceSub, Nat.zero_add, Nat.add_zero, yp_LT, yp_nA, yp_nM, yp_ltF, yp_ltT, yp_leF, yp_leT, yp_eqF, eq_self, yp_eqM, lt1, yp_sbN, yp_sb2N, ↓reduceIte, ↓yp_iP11, ↓yp_iP12, ↓yp_m0P]
    · subst hv0
      have i0 := inner 0 (yp_N 0) (-yp_N 1) (yp_N 0) (yp_N 1, yp_N 1, yp_N w) (by simp (disch := omega) only [yp_lpS, fX11_lookers_b59, fX11_lookers_j131, fX11_lookers_j128, fX11_wouldStay_j24, fX11_wouldStay, fX11_gain_j18, fX11_gain, e11, e10, yp_ck0, yp_ck1, Nat.reduceAdd, Nat.reduceMul, Nat.reduceSub, Nat.zero_add, Nat.add_zero, yp_LT, yp_nA, yp_nM, yp_ltF, yp_ltT, yp_leF, yp_leT, yp_eqF, eq_self, yp_eqM, lt1, yp_sbN, yp_sb2N, ↓reduceIte, ↓yp_iP11, ↓yp_iP12, ↓yp_m0P])
      have i1 := inner 1 (yp_N 1) (yp_N 1) (yp_N w) (yp_N 3, yp_N 1, yp_N w) (by simp (disch := omega) only [yp_lpS, fX11_lookers_b59, fX11_lookers_j131, fX11_lookers_j128, fX11_wouldStay_j24, fX11_wouldStay, fX11_gain_j18, fX11_gain, e11, e10, yp_ck0, yp_ck1, Nat.reduceAdd, Nat.reduceMul, Nat.reduceSub, Nat.zero_add, Nat.add_zero, yp_LT, yp_nA, yp_nM, yp_ltF, yp_ltT, yp_leF, yp_leT, yp_eqF, eq_self, yp_eqM, lt1, yp_sbN, yp_sb2N, ↓reduceIte, ↓yp_iP11, ↓yp_iP12, ↓yp_m0P])
      simp (disch := omega) only [yp_lpS, fX11_lookers_b50, fX11_lookers_j137, i0, i1, yp_lkN, yp_lkF, yp_lkT, hw0, Nat.reduceAdd, Nat.reduceMul, Nat.reduceSub, Nat.zero_add, Nat.add_zero, yp_LT, yp_nA, yp_nM, yp_ltF, yp_ltT, yp_leF, yp_leT, yp_eqF, eq_self, yp_eqM, lt1, yp_sbN, yp_sb2N, ↓reduceIte, ↓yp_iP11, ↓yp_iP12, ↓yp_m0P]
  · by_cases hw0 : w = 0
    · subst hw0
      have i0 := inner 0 (yp_N 0) (-yp_N 1) (yp_N 0) (yp_N 2, yp_N 0, yp_N 0) (by simp (disch := omega) only [yp_lpS, fX11_lookers_b59, fX11_lookers_j131, fX11_lookers_j128, fX11_wouldStay_j24, fX11_wouldStay, fX11_gain_j18, fX11_gain, e11, e10, yp_ck0, yp_ck1, Nat.reduceAdd, Nat.reduceMul, Nat.reduceSub, Nat.zero_add, Nat.add_zero, yp_LT, yp_nA, yp_nM, yp_ltF, yp_ltT, yp_leF, yp_leT, yp_eqF, eq_self, yp_eqM, lt1, yp_sbN, yp_sb2N, ↓reduceIte, ↓yp_iP11, ↓yp_iP12, ↓yp_m0P])
      have i1 := inner 1 (yp_N 2) (yp_N 0) (yp_N 0) (yp_N 3, yp_N 0, yp_N 0) (by simp (disch := omega) only [yp_lpS, fX11_lookers_b59, fX11_lookers_j131, fX11_lookers_j128, fX11_wouldStay_j24, fX11_wouldStay, fX11_gain_j18, fX11_gain, e11, e10, yp_ck0, yp_ck1, Nat.reduceAdd, Nat.reduceMul, Nat.reduceSub, Nat.zero_add, Nat.add_zero, yp_LT, yp_nA, yp_nM, yp_ltF, yp_ltT, yp_leF, yp_leT, yp_eqF, eq_self, yp_eqM, lt1, yp_sbN, yp_sb2N, ↓reduceIte, ↓yp_iP11, ↓yp_iP12, ↓yp_m0P])
      simp (disch := omega) only [yp_lpS, fX11_lookers_b50, fX11_lookers_j137, i0, i1, yp_lkN, yp_lkF, yp_lkT, hv0, Nat.reduceAdd, Nat.reduceMul, Nat.reduceSub, Nat.zero_add, Nat.add_zero, yp_LT, yp_nA, yp_nM, yp_ltF, yp_ltT, yp_leF, yp_leT, yp_eqF, eq_self, yp_eqM, lt1, yp_sbN, yp_sb2N, ↓reduceIte, ↓yp_iP11, ↓yp_iP12, ↓yp_m0P]
    · have i0 := inner 0 (yp_N 0) (-yp_N 1) (yp_N 0) (yp_N 1, yp_N 1, yp_N (v + w)) (by simp (disch := omega) only [yp_lpS, fX11_lookers_b59, fX11_lookers_j131, fX11_lookers_j128, fX11_wouldStay_j24, fX11_wouldStay, fX11_gain_j18, fX11_gain, e11, e10, yp_ck0, yp_ck1, Nat.reduceAdd, Nat.reduceMul, Nat.reduceSub, Nat.zero_add, Nat.add_zero, yp_LT, yp_nA, yp_nM, yp_ltF, yp_ltT, yp_leF, yp_leT, yp_eqF, eq_self, yp_eqM, lt1, yp_sbN, yp_sb2N, ↓reduceIte, ↓yp_iP11, ↓yp_iP12, ↓yp_m0P])
      have i1 := inner 1 (yp_N 1) (yp_N 1) (yp_N (v + w)) (yp_N 2, yp_N 1, yp_N (v + w)) (by simp (disch := omega) only [yp_lpS, fX11_lookers_b59, fX11_lookers_j131, fX11_lookers_j128, fX11_wouldStay_j24, fX11_wouldStay, fX11_gain_j18, fX11_gain, e11, e10, yp_ck0, yp_ck1, Nat.reduceAdd, Nat.reduceMul, Nat.reduceSub, Nat.zero_add, Nat.add_zero, yp_LT, yp_nA, yp_nM, yp_ltF, yp_ltT, yp_leF, yp_leT, yp_eqF, eq_self, yp_eqM, lt1, yp_sbN, yp_sb2N, ↓reduceIte, ↓yp_iP11, ↓yp_iP12, ↓yp_m0P])
      simp (disch := omega) only [yp_lpS, fX11_lookers_b50, fX11_lookers_j137, i0, i1, yp_lkN, yp_lkF, yp_lkT, hv0, hw0, Nat.reduceAdd, Nat.reduceMul, Nat.reduceSub, Nat.zero_add, Nat.add_zero, yp_LT, yp_nA, yp_nM, yp_ltF, yp_ltT, yp_leF, yp_leT, yp_eqF, eq_self, yp_eqM, lt1, yp_sbN, yp_sb2N, ↓reduceIte, ↓yp_iP11, ↓yp_iP12, ↓yp_m0P]
set_option maxHeartbeats 1000000 in
theorem yp_dv2 : dvI (yp_N 0) (yp_N 2) = some (yp_N 0) ∧ dvI (yp_N 1) (yp_N 2) = some (yp_N 0) ∧ dvI (yp_N 2) (yp_N 2) = some (yp_N 1) ∧ dvI (yp_N 3) (yp_N 2) = some (yp_N 1) ∧ rmI (yp_N 0) (yp_N 2) = some (yp_N 0) ∧ rmI (yp_N 1) (yp_N 2) = some (yp_N 1) ∧ rmI (yp_N 2) (yp_N 2) = some (yp_N 0) ∧ rmI (yp_N 3) (yp_N 2) = some (yp_N 1) ∧ dvI (yp_N 0) (yp_N 10) = some (yp_N 0) ∧ dvI (yp_N 1) (yp_N 10) = some (yp_N 0) ∧ rmI (yp_N 0) (yp_N 10) = some (yp_N 0) ∧ rmI (yp_N 1) (yp_N 10) = some (yp_N 1) := by decide +kernel
set_option maxHeartbeats 1000000 in
theorem yp_lpT {S X : Type} {step : S → Option (S ⊕ X)} {n : Nat} {s t : S} {x : X} (h : step s = some (.inl t)) (h2 : loopN step n t = some x) : loopN step (n + 1) s = some x := by
  unfold loopN
  rw [h]
  exact h2
set_option maxHeartbeats 1000000 in
theorem yp_lpX {S X : Type} {step : S → Option (S ⊕ X)} {n : Nat} {s : S} {x : X} (h : step s = some (.inr x)) : loopN step (n + 1) s = some x := by
  unfold loopN
  rw [h]
  rfl
set_option maxHeartbeats 1000000 in
theorem yp_lk_m (v w x3 : Nat) (hv : v ≤ 99) (hw : w ≤ 99) (m : Mem) : loopN (fun st : Int32 × Int32 × Int32 => fX12_lookers_b59 (yp_SH B) (yp_N v) (yp_N w) (yp_N x3) st.1 st.2.1 st.2.2 m) FU (yp_N 0, -yp_N 1, yp_N 0) = some (yp_N (yp_lkN v w), yp_lkF v w) := by
  have e11 : yp_N 1 - yp_N 1 = yp_N 0 := rfl
  have e10 : yp_N 1 - yp_N 0 = yp_N 1 := rfl
  refine yp_lpM (n := 5) ?_ (by rw [yp_FUe]; omega)
  by_cases hv0 : v = 0
  · by_cases hw0 : w = 0
    · rw [show yp_lkN v w = 4 by unfold yp_lkN; rw [if_pos hv0, if_pos hw0], show yp_lkF v w = yp_N 0 by unfold yp_lkF; rw [if_pos hw0]]
      subst hv0 hw0
      refine yp_lpT (t := (yp_N 1, yp_N 0, yp_N 1)) (by simp (disch := omega) only [fX12_lookers_b59, fX12_lookers_j148, fX12_lookers_j150, fX12_hasBy_j18, fX12_hasBy, yp_dv2, e11, e10, Nat.reduceAdd, Nat.reduceMul, Nat.reduceSub, Nat.zero_add, Nat.add_zero, yp_LT, yp_nA, yp_nM, yp_ltF, yp_ltT, yp_leF, yp_leT, yp_eqF, eq_self, yp_eqM, lt1, yp_sbN, yp_sb2N, ↓reduceIte, ↓yp_iP11, ↓yp_iP12, ↓yp_m0P]) ?_
      refine yp_lpT (t := (yp_N 2, yp_N 0, yp_N 2)) (by simp (disch := omega) only [fX12_lookers_b59, fX12_lookers_j148, fX12_lookers_j150, fX12_hasBy_j18, fX12_hasBy, yp_dv2, e11, e10, Nat.reduceAdd, Nat.reduceMul, Nat.reduceSub, Nat.zero_add, Nat.add_zero, yp_LT, yp_nA, yp_nM, yp_ltF, yp_ltT, yp_leF, yp_leT, yp_eqF, eq_self, yp_eqM, lt1, yp_sbN, yp_sb2N, ↓reduceIte, ↓yp_iP11, ↓yp_iP12, ↓yp_m0P]) ?_
      refine yp_lpT (t := (yp_N 3, yp_N 0, yp_N 3)) (by simp (disch := omega) only [fX12_lookers_b59, fX12_lookers_j148, fX12_lookers_j150, fX12_hasBy_j18, fX12_hasBy, yp_dv2, e11, e10, Nat.reduceAdd, Nat.reduceMul, Nat.reduceSub, Nat.zero_add, Nat.add_zero, yp_LT, yp_nA, yp_nM, yp_ltF, yp_ltT, yp_leF, yp_leT, yp_eqF, eq_self, yp_eqM, lt1, yp_sbN, yp_sb2N, ↓reduceIte, ↓yp_iP11, ↓yp_iP12, ↓yp_m0P]) ?_
      refine yp_lpT (t := (yp_N 4, yp_N 0, yp_N 4)) (by simp (disch := omega) only [fX12_lookers_b59, fX12_lookers_j148, fX12_lookers_j150, fX12_hasBy_j18, fX12_hasBy, yp_dv2, e11, e10, Nat.reduceAdd, Nat.reduceMul, Nat.reduceSub, Nat.zero_add, Nat.add_zero, yp_LT, yp_nA, yp_nM, yp_ltF, yp_ltT, yp_leF, yp_leT, yp_eqF, eq_self, yp_eqM, lt1, yp_sbN, yp_sb2N, ↓reduceIte, ↓yp_iP11, ↓yp_iP12, ↓yp_m0P]) ?_
      refine yp_lpX (x := (yp_N 4, yp_N 0)) (by simp (disch := omega) only [fX12_lookers_b59, Nat.reduceAdd, Nat.reduceMul, Nat.reduceSub, Nat.zero_add, Nat.add_zero, yp_LT, yp_nA, yp_nM, yp_ltF, yp_ltT, yp_leF, yp_leT, yp_eqF, eq_self, yp_eqM, lt1, yp_sbN, yp_sb2N, ↓reduceIte, ↓yp_iP11, ↓yp_iP12, ↓yp_m0P])
    · rw [show yp_lkN v w = 3 by unfold yp_lkN; rw [if_pos hv0, if_neg hw0], show yp_lkF v w = yp_N 1 by unfold yp_lkF; rw [if_neg hw0]]
      subst hv0
      refine yp_lpT (t := (yp_N 0, -yp_N 1, yp_N 1)) (by simp (disch := omega) only [fX12_lookers_b59, fX12_lookers_j148, fX12_lookers_j150, fX12_hasBy_j18, fX12_hasBy, yp_dv2, e11, e10, Nat.reduceAdd, Nat.reduceMul, Nat.reduceSub, Nat.zero_add, Nat.add_zero, yp_LT, yp_nA, yp_nM, yp_ltF, yp_ltT, yp_leF, yp_leT, yp_eqF, eq_self, yp_eqM, lt1, yp_sbN, yp_sb2N, ↓reduceIte, ↓yp_iP11, ↓yp_iP12, ↓yp_m0P]) ?_
      refine yp_lpT (t := (yp_N 1, yp_N 1, yp_N 2)) (by simp (disch := omega) only [fX12_lookers_b59, fX12_lookers_j148, fX12_lookers_j150, fX12_hasBy_j18, fX12_hasBy, yp_dv2, e11, e10, Nat.reduceAdd, Nat.reduceMul, Nat.reduceSub, Nat.zero_add, Nat.add_zero, yp_LT, yp_nA, yp_nM, yp_ltF, yp_ltT, yp_leF, yp_leT, yp_eqF, eq_self, yp_eqM, lt1, yp_sbN, yp_sb2N, ↓reduceIte, ↓yp_iP11, ↓yp_iP12, ↓yp_m0P]) ?_
      refine yp_lpT (t := (yp_N 2, yp_N 1, yp_N 3)) (by simp (disch := omega) only [fX12_lookers_b59, fX12_lookers_j148, fX12_lookers_j150, fX12_hasBy_j18, fX12_hasBy, yp_dv2, e11, e10, Nat.reduceAdd, Nat.reduceMul, Nat.reduceSub, Nat.zero_add, Nat.add_zero, yp_LT, yp_nA, yp_nM, yp_ltF, yp_ltT, yp_leF, yp_leT, yp_eqF, eq_self, yp_eqM, lt1, yp_sbN, yp_sb2N, ↓reduceIte, ↓yp_iP11, ↓yp_iP12, ↓yp_m0P]) ?_
      refine yp_lpT (t := (yp_N 3, yp_N 1, yp_N 4)) (by simp (disch := omega) only [fX12_lookers_b59, fX12_lookers_j148, fX12_lookers_j150, fX12_hasBy_j18, fX12_hasBy, yp_dv2, e11, e10, Nat.reduceAdd, Nat.reduceMul, Nat.reduceSub, Nat.zero_add, Nat.add_zero, yp_LT, yp_nA, yp_nM, yp_ltF, yp_ltT, yp_leF, yp_leT, yp_eqF, eq_self, yp_eqM, lt1, yp_sbN, yp_sb2N, ↓reduceIte, ↓yp_iP11, ↓yp_iP12, ↓yp_m0P]) ?_
      refine yp_lpX (x := (yp_N 3, yp_N 1)) (by simp (disch := omega) only [fX12_lookers_b59, Nat.reduceAdd, Nat.reduceMul, Nat.reduceSub, Nat.zero_add, Nat.add_zero, yp_LT, yp_nA, yp_nM, yp_ltF, yp_ltT, yp_leF, yp_leT, yp_eqF, eq_self, yp_eqM, lt1, yp_sbN, yp_sb2N, ↓reduceIte, ↓yp_iP11, ↓yp_iP12, ↓yp_m0P])
  · by_cases hw0 : w = 0
    · rw [show yp_lkN v w = 3 by unfold yp_lkN; rw [if_neg hv0, if_pos hw0], show yp_lkF v w = yp_N 0 by unfold yp_lkF; rw [if_pos hw0]]
      subst hw0
      refine yp_lpT (t := (yp_N 1, yp_N 0, yp_N 1)) (by simp (disch := omega) only [fX12_lookers_b59, fX12_lookers_j148, fX12_lookers_j150, fX12_hasBy_j18, fX12_hasBy, yp_dv2, e11, e10, Nat.reduceAdd, Nat.reduceMul, Nat.reduceSub, Nat.zero_add, Nat.add_zero, yp_LT, yp_nA, yp_nM, yp_ltF, yp_ltT, yp_leF, yp_leT, yp_eqF, eq_self, yp_eqM, lt1, yp_sbN, yp_sb2N, ↓reduceIte, ↓yp_iP11, ↓yp_iP12, ↓yp_m0P]) ?_
      refine yp_lpT (t := (yp_N 2, yp_N 0, yp_N 2)) (by simp (disch := omega) only [fX12_lookers_b59, fX12_lookers_j148, fX12_lookers_j150, fX12_hasBy_j18, fX12_hasBy, yp_dv2, e11, e10, Nat.reduceAdd, Nat.reduceMul, Nat.reduceSub, Nat.zero_add, Nat.add_zero, yp_LT, yp_nA, yp_nM, yp_ltF, yp_ltT, yp_leF, yp_leT, yp_eqF, eq_self, yp_eqM, lt1, yp_sbN, yp_sb2N, ↓reduceIte, ↓yp_iP11, ↓yp_iP12, ↓yp_m0P]) ?_
      refine yp_lpT (t := (yp_N 3, yp_N 0, yp_N 3)) (by simp (disch := omega) only [fX12_lookers_b59, fX12_lookers_j148, fX12_lookers_j150, fX12_hasBy_j18, fX12_hasBy, yp_dv2, e11, e10, Nat.reduceAdd, Nat.reduceMul, Nat.reduceSub, Nat.zero_add, Nat.add_zero, yp_LT, yp_nA, yp_nM, yp_ltF, yp_ltT, yp_leF, yp_leT, yp_eqF, eq_self, yp_eqM, lt1, yp_sbN, yp_sb2N, ↓reduceIte, ↓yp_iP11, ↓yp_iP12, ↓yp_m0P]) ?_
      refine yp_lpT (t := (yp_N 3, yp_N 0, yp_N 4)) (by simp (disch := omega) only [fX12_lookers_b59, fX12_lookers_j148, fX12_lookers_j150, fX12_hasBy_j18, fX12_hasBy, yp_dv2, e11, e10, Nat.reduceAdd, Nat.reduceMul, Nat.reduceSub, Nat.zero_add, Nat.add_zero, yp_LT, yp_nA, yp_nM, yp_ltF, yp_ltT, yp_leF, yp_leT, yp_eqF, eq_self, yp_eqM, lt1, yp_sbN, yp_sb2N, ↓reduceIte, ↓yp_iP11, ↓yp_iP12, ↓yp_m0P]) ?_
      refine yp_lpX (x := (yp_N 3, yp_N 0)) (by simp (disch := omega) only [fX12_lookers_b59, Nat.reduceAdd, Nat.reduceMul, Nat.reduceSub, Nat.zero_add, Nat.add_zero, yp_LT, yp_nA, yp_nM, yp_ltF, yp_ltT, yp_leF, yp_leT, yp_eqF, eq_self, yp_eqM, lt1, yp_sbN, yp_sb2N, ↓reduceIte, ↓yp_iP11, ↓yp_iP12, ↓yp_m0P])
    · rw [show yp_lkN v w = 2 by unfold yp_lkN; rw [if_neg hv0, if_neg hw0], show yp_lkF v w = yp_N 1 by unfold yp_lkF; rw [if_neg hw0]]
      refine yp_lpT (t := (yp_N 0, -yp_N 1, yp_N 1)) (by simp (disch := omega) only [fX12_lookers_b59, fX12_lookers_j148, fX12_lookers_j150, fX12_hasBy_j18, fX12_hasBy, yp_dv2, e11, e10, Nat.reduceAdd, Nat.reduceMul, Nat.reduceSub, Nat.zero_add, Nat.add_zero, yp_LT, yp_nA, yp_nM, yp_ltF, yp_ltT, yp_leF, yp_leT, yp_eqF, eq_self, yp_eqM, lt1, yp_sbN, yp_sb2N, ↓reduceIte, ↓yp_iP11, ↓yp_iP12, ↓yp_m0P]) ?_
      refine yp_lpT (t := (yp_N 1, yp_N 1, yp_N 2)) (by simp (disch := omega) only [fX12_lookers_b59, fX12_lookers_j148, fX12_lookers_j150, fX12_hasBy_j18, fX12_hasBy, yp_dv2, e11, e10, Nat.reduceAdd, Nat.reduceMul, Nat.reduceSub, Nat.zero_add, Nat.add_zero, yp_LT, yp_nA, yp_nM, yp_ltF, yp_ltT, yp_leF, yp_leT, yp_eqF, eq_self, yp_eqM, lt1, yp_sbN, yp_sb2N, ↓reduceIte, ↓yp_iP11, ↓yp_iP12, ↓yp_m0P]) ?_
      refine yp_lpT (t := (yp_N 2, yp_N 1, yp_N 3)) (by simp (disch := omega) only [fX12_lookers_b59, fX12_lookers_j148, fX12_lookers_j150, fX12_hasBy_j18, fX12_hasBy, yp_dv2, e11, e10, Nat.reduceAdd, Nat.reduceMul, Nat.reduceSub, Nat.zero_add, Nat.add_zero, yp_LT, yp_nA, yp_nM, yp_ltF, yp_ltT, yp_leF, yp_leT, yp_eqF, eq_self, yp_eqM, lt1, yp_sbN, yp_sb2N, ↓reduceIte, ↓yp_iP11, ↓yp_iP12, ↓yp_m0P]) ?_
      refine yp_lpT (t := (yp_N 2, yp_N 1, yp_N 4)) (by simp (disch := omega) only [fX12_lookers_b59, fX12_lookers_j148, fX12_lookers_j150, fX12_hasBy_j18, fX12_hasBy, yp_dv2, e11, e10, Nat.reduceAdd, Nat.reduceMul, Nat.reduceSub, Nat.zero_add, Nat.add_zero, yp_LT, yp_nA, yp_nM, yp_ltF, yp_ltT, yp_leF, yp_leT, yp_eqF, eq_self, yp_eqM, lt1, yp_sbN, yp_sb2N, ↓reduceIte, ↓yp_iP11, ↓yp_iP12, ↓yp_m0P]) ?_
      refine yp_lpX (x := (yp_N 2, yp_N 1)) (by simp (disch := omega) only [fX12_lookers_b59, Nat.reduceAdd, Nat.reduceMul, Nat.reduceSub, Nat.zero_add, Nat.add_zero, yp_LT, yp_nA, yp_nM, yp_ltF, yp_ltT, yp_leF, yp_leT, yp_eqF, eq_self, yp_eqM, lt1, yp_sbN, yp_sb2N, ↓reduceIte, ↓yp_iP11, ↓yp_iP12, ↓yp_m0P])
set_option maxHeartbeats 1000000 in
theorem yp_p_lookers (hR : yp_RCc B mm A) (hI : yp_INV A) (x y z : Int32) : yp_PM B (fX11_lookers (yp_SH B) B x y z mm) (fun m => fX12_lookers (yp_SH B) (B + 517) x y z m) hcI mm A := by
  have hA := yp_clsS B
  have hM := yp_mS B
  have hn := @yp_nd1 B mm
  have h0 := @yp_nd0 B mm A hR
  rcases yp_rng x 99 (by omega) with ⟨v, hv, rfl⟩ | h | h
  rotate_left
  · exact yp_PM_e1 hR hI (by simp (disch := omega) only [fX11_lookers_j164, fX11_lookers_j143, fX11_lookers_j137, fX11_lookers_j131, fX11_lookers_j128, fX11_lookers_j35, fX11_lookers_j34, fX11_lookers, hA, ↓h0, h, ↓yp_smL, ↓yp_smR, Nat.reduceAdd, Nat.reduceMul, Nat.reduceSub, Nat.zero_add, Nat.add_zero, yp_LT, yp_nA, yp_nM, yp_ltF, yp_ltT, yp_leF, yp_leT, yp_eqF, eq_self, yp_eqM, lt1, yp_sbN, yp_sb2N, ↓reduceIte, ↓yp_iP11, ↓yp_iP12, ↓yp_m0P]) (fun m hm => by simp (disch := omega) only [fX12_lookers_j216, fX12_lookers_j156, fX12_lookers_j150, fX12_lookers_j148, fX12_lookers_j40, fX12_lookers_j39, fX12_lookers, hM, yp_m0e, ↓yp_wiP, h, yp_may11, Nat.reduceAdd, Nat.reduceMul, Nat.reduceSub, Nat.zero_add, Nat.add_zero, yp_LT, yp_nA, yp_nM, yp_ltF, yp_ltT, yp_leF, yp_leT, yp_eqF, eq_self, yp_eqM, lt1, yp_sbN, yp_sb2N, ↓reduceIte, ↓yp_iP11, ↓yp_iP12, ↓yp_m0P]) rfl yp_n1
  · exact yp_PM_e1 hR hI (by simp (disch := omega) only [fX11_lookers_j164, fX11_lookers_j143, fX11_lookers_j137, fX11_lookers_j131, fX11_lookers_j128, fX11_lookers_j35, fX11_lookers_j34, fX11_lookers, hA, ↓h0, h, ↓yp_smL, ↓yp_smR, Nat.reduceAdd, Nat.reduceMul, Nat.reduceSub, Nat.zero_add, Nat.add_zero, yp_LT, yp_nA, yp_nM, yp_ltF, yp_ltT, yp_leF, yp_leT, yp_eqF, eq_self, yp_eqM, lt1, yp_sbN, yp_sb2N, ↓reduceIte, ↓yp_iP11, ↓yp_iP12, ↓yp_m0P]) (fun m hm => by simp (disch := omega) only [fX12_lookers_j216, fX12_lookers_j156, fX12_lookers_j150, fX12_lookers_j148, fX12_lookers_j40, fX12_lookers_j39, fX12_lookers, hM, yp_m0e, ↓yp_wiP, h, yp_may11, Nat.reduceAdd, Nat.reduceMul, Nat.reduceSub, Nat.zero_add, Nat.add_zero, yp_LT, yp_nA, yp_nM, yp_ltF, yp_ltT, yp_leF, yp_leT, yp_eqF, eq_self, yp_eqM, lt1, yp_sbN, yp_sb2N, ↓reduceIte, ↓yp_iP11, ↓yp_iP12, ↓yp_m0P]) rfl yp_n1
  rcases yp_rng y 99 (by omega) with ⟨w, hw, rfl⟩ | h | h
  rotate_left
  · exact yp_PM_e1 hR hI (by simp (disch := omega) only [fX11_lookers_j164, fX11_lookers_j143, fX11_lookers_j137, fX11_lookers_j131, fX11_lookers_j128, fX11_lookers_j35, fX11_lookers_j34, fX11_lookers, hA, ↓h0, h, ↓yp_smL, ↓yp_smR, Nat.reduceAdd, Nat.reduceMul, Nat.reduceSub, Nat.zero_add, Nat.add_zero, yp_LT, yp_nA, yp_nM, yp_ltF, yp_ltT, yp_leF, yp_leT, yp_eqF, eq_self, yp_eqM, lt1, yp_sbN, yp_sb2N, ↓reduceIte, ↓yp_iP11, ↓yp_iP12, ↓yp_m0P]) (fun m hm => by simp (disch := omega) only [fX12_lookers_j216, fX12_lookers_j156, fX12_lookers_j150, fX12_lookers_j148, fX12_lookers_j40, fX12_lookers_j39, fX12_lookers, hM, yp_m0e, ↓yp_wiP, h, yp_may11, Nat.reduceAdd, Nat.reduceMul, Nat.reduceSub, Nat.zero_add, Nat.add_zero, yp_LT, yp_nA, yp_nM, yp_ltF, yp_ltT, yp_leF, yp_leT, yp_eqF, eq_self, yp_eqM, lt1, yp_sbN, yp_sb2N, ↓reduceIte, ↓yp_iP11, ↓yp_iP12, ↓yp_m0P]) rfl yp_n1
  · exact yp_PM_e1 hR hI (by simp (disch := omega) only [fX11_lookers_j164, fX11_lookers_j143, fX11_lookers_j137, fX11_lookers_j131, fX11_lookers_j128, fX11_lookers_j35, fX11_lookers_j34, fX11_lookers, hA, ↓h0, h, ↓yp_smL, ↓yp_smR, Nat.reduceAdd, Nat.reduceMul, Nat.reduceSub, Nat.zero_add, Nat.add_zero, yp_LT, yp_nA, yp_nM, yp_ltF, yp_ltT, yp_leF, yp_leT, yp_eqF, eq_self, yp_eqM, lt1, yp_sbN, yp_sb2N, ↓reduceIte, ↓yp_iP11, ↓yp_iP12, ↓yp_m0P]) (fun m hm => by simp (disch := omega) only [fX12_lookers_j216, fX12_lookers_j156, fX12_lookers_j150, fX12_lookers_j148, fX12_lookers_j40, fX12_lookers_j39, fX12_lookers, hM, yp_m0e, ↓yp_wiP, h, yp_may11, Nat.reduceAdd, Nat.reduceMul, Nat.reduceSub, Nat.zero_add, Nat.add_zero, yp_LT, yp_nA, yp_nM, yp_ltF, yp_ltT, yp_leF, yp_leT, yp_eqF, eq_self, yp_eqM, lt1, yp_sbN, yp_sb2N, ↓reduceIte, ↓yp_iP11, ↓yp_iP12, ↓yp_m0P]) rfl yp_n1
  rcases yp_rng z 2 (by omega) with ⟨k, hk, rfl⟩ | h | h
  rotate_left
  · exact yp_PM_e1 hR hI (by simp (disch := omega) only [fX11_lookers_j164, fX11_lookers_j143, fX11_lookers_j137, fX11_lookers_j131, fX11_lookers_j128, fX11_lookers_j35, fX11_lookers_j34, fX11_lookers, hA, ↓h0, h, ↓yp_smL, ↓yp_smR, Nat.reduceAdd, Nat.reduceMul, Nat.reduceSub, Nat.zero_add, Nat.add_zero, yp_LT, yp_nA, yp_nM, yp_ltF, yp_ltT, yp_leF, yp_leT, yp_eqF, eq_self, yp_eqM, lt1, yp_sbN, yp_sb2N, ↓reduceIte, ↓yp_iP11, ↓yp_iP12, ↓yp_m0P]) (fun m hm => by simp (disch := omega) only [fX12_lookers_j216, fX12_lookers_j156, fX12_lookers_j150, fX12_lookers_j148, fX12_lookers_j40, fX12_lookers_j39, fX12_lookers, hM, yp_m0e, ↓yp_wiP, h, yp_may11, Nat.reduceAdd, Nat.reduceMul, Nat.reduceSub, Nat.zero_add, Nat.add_zero, yp_LT, yp_nA, yp_nM, yp_ltF, yp_ltT, yp_leF, yp_leT, yp_eqF, eq_self, yp_eqM, lt1, yp_sbN, yp_sb2N, ↓reduceIte, ↓yp_iP11, ↓yp_iP12, ↓yp_m0P]) rfl yp_n1
  · exact yp_PM_e1 hR hI (by simp (disch := omega) only [fX11_lookers_j164, fX11_lookers_j143, fX11_lookers_j137, fX11_lookers_j131, fX11_lookers_j128, fX11_lookers_j35, fX11_lookers_j34, fX11_lookers, hA, ↓h0, h, ↓yp_smL, ↓yp_smR, Nat.reduceAdd, Nat.reduceMul, Nat.reduceSub, Nat.zero_add, Nat.add_zero, yp_LT, yp_nA, yp_nM, yp_ltF, yp_ltT, yp_leF, yp_leT, yp_eqF, eq_self, yp_eqM, lt1, yp_sbN, yp_sb2N, ↓reduceIte, ↓yp_iP11, ↓yp_iP12, ↓yp_m0P]) (fun m hm => by simp (disch := omega) only [fX12_lookers_j216, fX12_lookers_j156, fX12_lookers_j150, fX12_lookers_j148, fX12_lookers_j40, fX12_lookers_j39, fX12_lookers, hM, yp_m0e, ↓yp_wiP, h, yp_may11, Nat.reduceAdd, Nat.reduceMul, Nat.reduceSub, Nat.zero_add, Nat.add_zero, yp_LT, yp_nA, yp_nM, yp_ltF, yp_ltT, yp_leF, yp_leT, yp_eqF, eq_self, yp_eqM, lt1, yp_sbN, yp_sb2N, ↓reduceIte, ↓yp_iP11, ↓yp_iP12, ↓yp_m0P]) rfl yp_n1
  have e1 := yp_lk_c (B := B) (mm := mm) v w k hv hw
  have e2 := fun m => yp_lk_m (B := B) v w k hv hw m
  have : k = 0 ∨ k = 1 ∨ k = 2 := by omega
  rcases this with rfl | rfl | rfl
  · refine yp_PM_st hR hI (v := yp_N (yp_lkN v w)) ?_ (fun m hm hm0 => ?_)
    · simp (disch := omega) only [fX11_lookers_j164, fX11_lookers_j143, fX11_lookers_j137, fX11_lookers_j131, fX11_lookers_j128, fX11_lookers_j35, fX11_lookers_j34, fX11_lookers, hA, ↓hn, ↓yp_smL, ↓yp_smR, e1, Nat.reduceAdd, Nat.reduceMul, Nat.reduceSub, Nat.zero_add, Nat.add_zero, yp_LT, yp_nA, yp_nM, yp_ltF, yp_ltT, yp_leF, yp_leT, yp_eqF, eq_self, yp_eqM, lt1, yp_sbN, yp_sb2N, ↓reduceIte, ↓yp_iP11, ↓yp_iP12, ↓yp_m0P]
    · simp (disch := omega) only [fX12_lookers_j216, fX12_lookers_j156, fX12_lookers_j150, fX12_lookers_j148, fX12_lookers_j40, fX12_lookers_j39, fX12_lookers, hM, yp_m0e, ↓yp_wiP, yp_mayG, e2, Nat.reduceAdd, Nat.reduceMul, Nat.reduceSub, Nat.zero_add, Nat.add_zero, yp_LT, yp_nA, yp_nM, yp_ltF, yp_ltT, yp_leF, yp_leT, yp_eqF, eq_self, yp_eqM, lt1, yp_sbN, yp_sb2N, ↓reduceIte, ↓yp_iP11, ↓yp_iP12, ↓yp_m0P]
  · refine yp_PM_st hR hI (v := yp_lkF v w) ?_ (fun m hm hm0 => ?_)
    · simp (disch := omega) only [fX11_lookers_j164, fX11_lookers_j143, fX11_lookers_j137, fX11_lookers_j131, fX11_lookers_j128, fX11_lookers_j35, fX11_lookers_j34, fX11_lookers, hA, ↓hn, ↓yp_smL, ↓yp_smR, e1, Nat.reduceAdd, Nat.reduceMul, Nat.reduceSub, Nat.zero_add, Nat.add_zero, yp_LT, yp_nA, yp_nM, yp_ltF, yp_ltT, yp_leF, yp_leT, yp_eqF, eq_self, yp_eqM, lt1, yp_sbN, yp_sb2N, ↓reduceIte, ↓yp_iP11, ↓yp_iP12, ↓yp_m0P]
    · simp (disch := omega) only [fX12_lookers_j216, fX12_lookers_j156, fX12_lookers_j150, fX12_lookers_j148, fX12_lookers_j40, fX12_lookers_j39, fX12_lookers, hM, yp_m0e, ↓yp_wiP, yp_mayG, e2, Nat.reduceAdd, Nat.reduceMul, Nat.reduceSub, Nat.zero_add, Nat.add_zero, yp_LT, yp_nA, yp_nM, yp_ltF, yp_ltT, yp_leF, yp_leT, yp_eqF, eq_self, yp_eqM, lt1, yp_sbN, yp_sb2N, ↓reduceIte, ↓yp_iP11, ↓yp_iP12, ↓yp_m0P]
  · refine yp_PM_st hR hI (v := yp_lkT v w) ?_ (fun m hm hm0 => ?_)
    · simp (disch := omega) only [fX11_lookers_j164, fX11_lookers_j143, fX11_lookers_j137, fX11_lookers_j131, fX11_lookers_j128, fX11_lookers_j35, fX11_lookers_j34, fX11_lookers, hA, ↓hn, ↓yp_smL, ↓yp_smR, e1, Nat.reduceAdd, Nat.reduceMul, Nat.reduceSub, Nat.zero_add, Nat.add_zero, yp_LT, yp_nA, yp_nM, yp_ltF, yp_ltT, yp_leF, yp_leT, yp_eqF, eq_self, yp_eqM, lt1, yp_sbN, yp_sb2N, ↓reduceIte, ↓yp_iP11, ↓yp_iP12, ↓yp_m0P]
    · have e3 := e2 (yp_m0 B m)
      by_cases hw0 : w = 0
      · simp only [yp_lkF, hw0, if_true] at e3
        subst hw0
        simp (disch := omega) only [fX12_lookers_j216, fX12_lookers_j156, fX12_lookers_j150, fX12_lookers_j148, fX12_lookers_j40, fX12_lookers_j39, fX12_lookers, hM, yp_m0e, ↓yp_wiP, yp_mayG, e3, yp_dv2, fX12_hasBy_j18, fX12_hasBy, yp_lkT, Nat.reduceAdd, Nat.reduceMul, Nat.reduceSub, Nat.zero_add, Nat.add_zero, yp_LT, yp_nA, yp_nM, yp_ltF, yp_ltT, yp_leF, yp_leT, yp_eqF, eq_self, yp_eqM, lt1, yp_sbN, yp_sb2N, ↓reduceIte, ↓yp_iP11, ↓yp_iP12, ↓yp_m0P]
      · simp only [yp_lkF, hw0, if_false] at e3
        simp (disch := omega) only [fX12_lookers_j216, fX12_lookers_j156, fX12_lookers_j150, fX12_lookers_j148, fX12_lookers_j40, fX12_lookers_j39, fX12_lookers, hM, yp_m0e, ↓yp_wiP, yp_mayG, e3, yp_dv2, fX12_hasBy_j18, fX12_hasBy, yp_lkT, hw0, Nat.reduceAdd, Nat.reduceMul, Nat.reduceSub, Nat.zero_add, Nat.add_zero, yp_LT, yp_nA, yp_nM, yp_ltF, yp_ltT, yp_leF, yp_leT, yp_eqF, eq_self, yp_eqM, lt1, yp_sbN, yp_sb2N, ↓reduceIte, ↓yp_iP11, ↓yp_iP12, ↓yp_m0P]
set_option maxHeartbeats 1000000 in
theorem yp_gv_mono {Q : yp_EnvT} {H : Nat → Int32} (hH : yp_HI Q H) (s : Int32) (b c : Nat) (hbc : b ≤ c) (hc : c < 100000) : ∀ n, n ≤ 6 → 0 ≤ (yp_fo (fun k a => if yp_bt s k = yp_N 1 then a + mnI (yp_W H k) (yp_N b) else a) n (yp_N 0)).toInt ∧ (yp_fo (fun k a => if yp_bt s k = yp_N 1 then a + mnI (yp_W H k) (yp_N b) else a) n (yp_N 0)).toInt ≤ (yp_fo (fun k a => if yp_bt s k = yp_N 1 then a + mnI (yp_W H k) (yp_N c) else a) n (yp_N 0)).toInt ∧ (yp_fo (fun k a => if yp_bt s k = yp_N 1 then a + mnI (yp_W H k) (yp_N c) else a) n (yp_N 0)).toInt ≤ 1680 * n := by
  intro n
  induction n with
  | zero => intro _; rw [yp_fo_0, yp_fo_0, yp_ti0]; omega
  | succ n ih =>
    intro hn
    have h1 := ih (by omega)
    rw [yp_fo_s, yp_fo_s]
    generalize yp_fo (fun k a => if yp_bt s k = yp_N 1 then a + mnI (yp_W H k) (yp_N b) else a) n (yp_N 0) = x at h1
    generalize yp_fo (fun k a => if yp_bt s k = yp_N 1 then a + mnI (yp_W H k) (yp_N c) else a) n (yp_N 0) = y at h1
    have h2 := hH.W n (by omega)
    by_cases e : yp_bt s n = yp_N 1
    · rw [if_pos e, if_pos e]
      have e1 : (mnI (yp_W H n) (yp_N b)).toInt = if (b : Int) < (yp_W H n).toInt then (b : Int) else (yp_W H n).toInt := by rw [yp_mnTi, yp_tiN (by omega)]
      have e2 : (mnI (yp_W H n) (yp_N c)).toInt = if (c : Int) < (yp_W H n).toInt then (c : Int) else (yp_W H n).toInt := by rw [yp_mnTi, yp_tiN (by omega)]
      have e3 : 0 ≤ (mnI (yp_W H n) (yp_N b)).toInt ∧ (mnI (yp_W H n) (yp_N b)).toInt ≤ (mnI (yp_W H n) (yp_N c)).toInt ∧ (mnI (yp_W H n) (yp_N c)).toInt ≤ 1680 := by
        rw [e1, e2]
        (repeat' split) <;> omega
      rw [yp_ti_add (by omega) (by omega), yp_ti_add (by omega) (by omega)]
      omega
    · rw [if_neg e, if_neg e]
      omega
set_option maxHeartbeats 1000000 in
theorem yp_gv_le {Q : yp_EnvT} {H : Nat → Int32} (hH : yp_HI Q H) (s : Int32) {b c : Nat} (hbc : b ≤ c) (hc : c < 100000) : yp_GV H s (yp_N b) ≤ yp_GV H s (yp_N c) := by
  rw [yp_leTi]
  exact (yp_gv_mono hH s b c hbc hc 6 (by omega)).2.1
set_option maxHeartbeats 1000000 in
theorem yp_gv_0 {Q : yp_EnvT} {H : Nat → Int32} (hH : yp_HI Q H) (s : Int32) : yp_GV H s (yp_N 0) = yp_N 0 := by
  have key : ∀ n, n ≤ 6 → yp_fo (fun k a => if yp_bt s k = yp_N 1 then a + mnI (yp_W H k) (yp_N 0) else a) n (yp_N 0) = yp_N 0 := by
    intro n
    induction n with
    | zero => intro _; rfl
    | succ n ih =>
      intro hn
      rw [yp_fo_s, ih (by omega)]
      have h2 := hH.W n (by omega)
      have e : mnI (yp_W H n) (yp_N 0) = yp_N 0 := by
        rw [yp_eqTi, yp_mnTi, yp_ti0]
        split <;> omega
      rw [e]
      split <;> rfl
  exact key 6 (by omega)
set_option maxHeartbeats 1000000 in
theorem yp_lbit (k : Nat) (hk : k < 12) : yp_N (2048 / 2 ^ k) >>> (yp_N 1 &&& yp_N 31) = yp_N (2048 / 2 ^ (k + 1)) ∧ 4096 / 2 ^ k = 2 * (2048 / 2 ^ k) ∧ 4096 / 2 ^ (k + 1) = 2048 / 2 ^ k ∧ 1 ≤ 2048 / 2 ^ k ∧ 2048 / 2 ^ k ≤ 2048 := by
  have h : ∀ k : Fin 12, yp_N (2048 / 2 ^ k.val) >>> (yp_N 1 &&& yp_N 31) = yp_N (2048 / 2 ^ (k.val + 1)) ∧ 4096 / 2 ^ k.val = 2 * (2048 / 2 ^ k.val) ∧ 4096 / 2 ^ (k.val + 1) = 2048 / 2 ^ k.val ∧ 1 ≤ 2048 / 2 ^ k.val ∧ 2048 / 2 ^ k.val ≤ 2048 := by decide +kernel
  exact h ⟨k, hk⟩
set_option maxHeartbeats 1000000 in
theorem yp_lt_c (hR : yp_RCc B mm A) (hI : yp_INV A) (f s n : Nat) : ∃ b, loopN (fun st : Int32 × Int32 => fX11_light_b51 (yp_SH B) B (yp_N f) (yp_N s) (yp_N n) st.1 st.2 mm) FU (yp_N 0, yp_N 2048) = some (yp_N b) ∧ b ≤ 4095 ∧ yp_GV (yp_sH A) (yp_N s) (yp_N b) ≤ yp_N n ∧ (b = 4095 ∨ ¬ yp_GV (yp_sH A) (yp_N s) (yp_N (b + 1)) ≤ yp_N n) ∨ ¬ (yp_N 0 : Int32) ≤ yp_N n := by
  have hA := yp_clsS B
  by_cases hn0 : (yp_N 0 : Int32) ≤ yp_N n
  rotate_left
  · exact ⟨0, .inr hn0⟩
  obtain ⟨r, h1, b, rfl, h2, h3, h4⟩ := yp_lpI (step := fun st : Int32 × Int32 => fX11_light_b51 (yp_SH B) B (yp_N f) (yp_N s) (yp_N n) st.1 st.2 mm) (fun k st => ∃ b, st = (yp_N b, yp_N (2048 / 2 ^ k)) ∧ yp_GV (yp_sH A) (yp_N s) (yp_N b) ≤ yp_N n ∧ b + 4096 / 2 ^ k ≤ 4096 ∧ (b + 4096 / 2 ^ k = 4096 ∨ ¬ yp_GV (yp_sH A) (yp_N s) (yp_N (b + 4096 / 2 ^ k)) ≤ yp_N n)) (fun r => ∃ b, r = yp_N b ∧ yp_GV (yp_sH A) (yp_N s) (yp_N b) ≤ yp_N n ∧ b ≤ 4095 ∧ (b = 4095 ∨ ¬ yp_GV (yp_sH A) (yp_N s) (yp_N (b + 1)) ≤ yp_N n)) 12 (fun k st hk hJ => by
    obtain ⟨b, rfl, j1, j2, j3⟩ := hJ
    by_cases e : k = 12
    · subst e
      have e1 : 2048 / 2 ^ 12 = 0 := by decide
      have e2 : 4096 / 2 ^ 12 = 1 := by decide
      rw [e2] at j2 j3
      refine .inr ⟨yp_N b, by simp (disch := omega) only [fX11_light_b51, e1, Nat.reduceAdd, Nat.reduceMul, Nat.reduceSub, Nat.zero_add, Nat.add_zero, yp_LT, yp_nA, yp_nM, yp_ltF, yp_ltT, yp_leF, yp_leT, yp_eqF, eq_self, yp_eqM, lt1, yp_sbN, yp_sb2N, ↓reduceIte, ↓yp_iP11, ↓yp_iP12, ↓yp_m0P], b, rfl, j1, by omega, ?_⟩
      rcases j3 with j3 | j3
      · left; omega
      · right; exact j3
    · obtain ⟨l1, l2, l3, l4, l5⟩ := yp_lbit k (by omega)
      rw [l2] at j2 j3
      generalize hb : 2048 / 2 ^ k = bit at l1 l2 l3 l4 l5 j2 j3
      have e1 := yp_h_given (yp_hs33 B) hR.2.1 (yp_N s) (yp_N (b + bit))
      by_cases e2 : yp_GV (yp_sH A) (yp_N s) (yp_N (b + bit)) ≤ yp_N n
      · have e3 : (yp_N n < yp_GV (yp_sH A) (yp_N s) (yp_N (b + bit))) = False := eq_false (Int32.not_lt.mpr e2)
        refine .inl ⟨by omega, (yp_N (b + bit), yp_N (2048 / 2 ^ (k + 1))), ?_, b + bit, rfl, e2, by omega, ?_⟩
        · simp (disch := omega) only [fX11_light_b51, fX11_light_j80, hA, e1, e3, l1, Nat.reduceAdd, Nat.reduceMul, Nat.reduceSub, Nat.zero_add, Nat.add_zero, yp_LT, yp_nA, yp_nM, yp_ltF, yp_ltT, yp_leF, yp_leT, yp_eqF, eq_self, yp_eqM, lt1, yp_sbN, yp_sb2N, ↓reduceIte, ↓yp_iP11, ↓yp_iP12, ↓yp_m0P]
        · rw [l3]
          rcases j3 with j3 | j3
          · left; omega
          · right
            rw [show b + bit + bit = b + 2 * bit by omega]
            exact j3
      · have e3 : (yp_N n < yp_GV (yp_sH A) (yp_N s) (yp_N (b + bit))) = True := eq_true (Int32.not_le.mp e2)
        refine .inl ⟨by omega, (yp_N b, yp_N (2048 / 2 ^ (k + 1))), ?_, b, rfl, j1, by omega, ?_⟩
        · simp (disch := omega) only [fX11_light_b51, fX11_light_j80, hA, e1, e3, l1, Nat.reduceAdd, Nat.reduceMul, Nat.reduceSub, Nat.zero_add, Nat.add_zero, yp_LT, yp_nA, yp_nM, yp_ltF, yp_ltT, yp_leF, yp_leT, yp_eqF, eq_self, yp_eqM, lt1, yp_sbN, yp_sb2N, ↓reduceIte, ↓yp_iP11, ↓yp_iP12, ↓yp_m0P]
        · rw [l3]
          exact .inr e2) (show 12 < FU by rw [yp_FUe]; omega) (s0 := (yp_N 0, yp_N 2048)) ⟨0, rfl, by rw [yp_gv_0 hI.2.1]; exact hn0, by decide, .inl (by decide)⟩
  exact ⟨b, .inl ⟨h1, h3, h2, h4⟩⟩
set_option maxHeartbeats 1000000 in
theorem yp_lt_m {m2 : Mem} (hI : yp_INV A) (a2 : yp_HM m2 (B + 533) (yp_sH A)) (a3 : yp_CLm B m2 (yp_sQ A)) (f s n : Nat) (hs : s < 2 ^ yp_qf (yp_sQ A)) (hn0 : (yp_N 0 : Int32) ≤ yp_N n) : ∃ b, loopN (fun st : Int32 => fX12_light_b58 (yp_SH B) (B + 517) (yp_N f) (yp_N s) (yp_N n) st m2) FU (yp_N 2800) = some (yp_N b) ∧ b ≤ 2800 ∧ yp_GV (yp_sH A) (yp_N s) (yp_N b) ≤ yp_N n ∧ (b = 2800 ∨ ¬ yp_GV (yp_sH A) (yp_N s) (yp_N (b + 1)) ≤ yp_N n) := by
  have hM := yp_mS B
  have hq := hI.1.1
  obtain ⟨r, h1, b, rfl, h2, h3, h4⟩ := yp_lpI (step := fun st : Int32 => fX12_light_b58 (yp_SH B) (B + 517) (yp_N f) (yp_N s) (yp_N n) st m2) (fun k st => st = yp_N (2800 - k) ∧ (k = 0 ∨ ¬ yp_GV (yp_sH A) (yp_N s) (yp_N (2800 - k + 1)) ≤ yp_N n)) (fun r => ∃ b, r = yp_N b ∧ b ≤ 2800 ∧ yp_GV (yp_sH A) (yp_N s) (yp_N b) ≤ yp_N n ∧ (b = 2800 ∨ ¬ yp_GV (yp_sH A) (yp_N s) (yp_N (b + 1)) ≤ yp_N n)) 2800 (fun k st hk hJ => by
    obtain ⟨rfl, j1⟩ := hJ
    have e1 := yp_m_light a2 a3.1 hq (yp_N s) (yp_N (2800 - k))
    rw [← yp_gv_eq hq hs] at e1
    by_cases e2 : yp_GV (yp_sH A) (yp_N s) (yp_N (2800 - k)) ≤ yp_N n
    · refine .inr ⟨yp_N (2800 - k), by simp (disch := omega) only [fX12_light_b58, hM, e1, e2, Nat.reduceAdd, Nat.reduceMul, Nat.reduceSub, Nat.zero_add, Nat.add_zero, yp_LT, yp_nA, yp_nM, yp_ltF, yp_ltT, yp_leF, yp_leT, yp_eqF, eq_self, yp_eqM, lt1, yp_sbN, yp_sb2N, ↓reduceIte, ↓yp_iP11, ↓yp_iP12, ↓yp_m0P], 2800 - k, rfl, by omega, e2, ?_⟩
      rcases j1 with j1 | j1
      · left; omega
      · right; exact j1
    · have e4 : ¬ k = 2800 := fun h => by
        rw [h] at e2
        rw [show 2800 - 2800 = 0 by omega, yp_gv_0 hI.2.1] at e2
        exact e2 hn0
      have e5 : yp_N (2800 - k) + -yp_N 1 = yp_N (2800 - (k + 1)) := by
        rw [← Int32.sub_eq_add_neg, yp_nS (by omega), Nat.sub_sub]
      refine .inl ⟨by omega, yp_N (2800 - (k + 1)), by simp (disch := omega) only [fX12_light_b58, hM, e1, e2, e5, Nat.reduceAdd, Nat.reduceMul, Nat.reduceSub, Nat.zero_add, Nat.add_zero, yp_LT, yp_nA, yp_nM, yp_ltF, yp_ltT, yp_leF, yp_leT, yp_eqF, eq_self, yp_eqM, lt1, yp_sbN, yp_sb2N, ↓reduceIte, ↓yp_iP11, ↓yp_iP12, ↓yp_m0P], rfl, .inr ?_⟩
      rw [show 2800 - (k + 1) + 1 = 2800 - k by omega]
      exact e2) (show 2800 < FU by rw [yp_FUe]; omega) (s0 := yp_N 2800) ⟨rfl, .inl rfl⟩
  exact ⟨b, h1, h2, h3, h4⟩
set_option maxHeartbeats 1000000 in
theorem yp_p_light (hR : yp_RCc B mm A) (hI : yp_INV A) (x y z : Int32) : yp_PM B (fX11_light (yp_SH B) B x y z mm) (fun m => fX12_light (yp_SH B) (B + 517) x y z m) hcB mm A := by
  have hA := yp_clsS B
  have hM := yp_mS B
  have hn := @yp_nd1 B mm
  have h0 := @yp_nd0 B mm A hR
  have hq := hI.1.1
  rcases yp_c_needF hR hI x with ⟨f, hf, rfl, hc⟩ | ⟨hb, hc⟩
  rotate_left
  · exact yp_PM_e0 hR hI (by simp (disch := omega) only [fX11_light_j89, fX11_light_j80, fX11_light_j30, fX11_light_j29, fX11_light, hA, ↓yp_bdP hc, ↓yp_smL, ↓yp_smR, Nat.reduceAdd, Nat.reduceMul, Nat.reduceSub, Nat.zero_add, Nat.add_zero, yp_LT, yp_nA, yp_nM, yp_ltF, yp_ltT, yp_leF, yp_leT, yp_eqF, eq_self, yp_eqM, lt1, yp_sbN, yp_sb2N, ↓reduceIte, ↓yp_iP11, ↓yp_iP12, ↓yp_m0P]) (fun m hm => by simp (disch := omega) only [fX12_light_j47, fX12_light_j94, fX12_light_j75, fX12_light_j39, fX12_light_j38, fX12_light, hM, yp_m0e, yp_m_isF0 hm hI hb, Nat.reduceAdd, Nat.reduceMul, Nat.reduceSub, Nat.zero_add, Nat.add_zero, yp_LT, yp_nA, yp_nM, yp_ltF, yp_ltT, yp_leF, yp_leT, yp_eqF, eq_self, yp_eqM, lt1, yp_sbN, yp_sb2N, ↓reduceIte, ↓yp_iP11, ↓yp_iP12, ↓yp_m0P]) rfl
  have hf6 : f < 6 := by omega
  rcases yp_setR hR hI y with ⟨s, hs, hs2, rfl, q1, q2⟩ | ⟨q1, q2⟩
  rotate_left
  · exact yp_PM_e1 hR hI (by simp (disch := omega) only [fX11_light_j89, fX11_light_j80, fX11_light_j30, fX11_light_j29, fX11_light, hA, ↓yp_bdP hc, ↓h0, q1, ↓yp_smL, ↓yp_smR, Nat.reduceAdd, Nat.reduceMul, Nat.reduceSub, Nat.zero_add, Nat.add_zero, yp_LT, yp_nA, yp_nM, yp_ltF, yp_ltT, yp_leF, yp_leT, yp_eqF, eq_self, yp_eqM, lt1, yp_sbN, yp_sb2N, ↓reduceIte, ↓yp_iP11, ↓yp_iP12, ↓yp_m0P]) (fun m hm => by simp (disch := omega) only [fX12_light_j47, fX12_light_j94, fX12_light_j75, fX12_light_j39, fX12_light_j38, fX12_light, hM, yp_m0e, yp_m_isF1 hm hI hf, q2 m hm, yp_may21, Nat.reduceAdd, Nat.reduceMul, Nat.reduceSub, Nat.zero_add, Nat.add_zero, yp_LT, yp_nA, yp_nM, yp_ltF, yp_ltT, yp_leF, yp_leT, yp_eqF, eq_self, yp_eqM, lt1, yp_sbN, yp_sb2N, ↓reduceIte, ↓yp_iP11, ↓yp_iP12, ↓yp_m0P]) rfl yp_n2
  rcases yp_rng z 2800 (by omega) with ⟨n, hn28, rfl⟩ | h | h
  rotate_left
  · exact yp_PM_e1 hR hI (by simp (disch := omega) only [fX11_light_j89, fX11_light_j80, fX11_light_j30, fX11_light_j29, fX11_light, hA, ↓yp_bdP hc, ↓h0, q1, h, ↓yp_smL, ↓yp_smR, Nat.reduceAdd, Nat.reduceMul, Nat.reduceSub, Nat.zero_add, Nat.add_zero, yp_LT, yp_nA, yp_nM, yp_ltF, yp_ltT, yp_leF, yp_leT, yp_eqF, eq_self, yp_eqM, lt1, yp_sbN, yp_sb2N, ↓reduceIte, ↓yp_iP11, ↓yp_iP12, ↓yp_m0P]) (fun m hm => by simp (disch := omega) only [fX12_light_j47, fX12_light_j94, fX12_light_j75, fX12_light_j39, fX12_light_j38, fX12_light, hM, yp_m0e, yp_m_isF1 hm hI hf, q2 m hm, ↓yp_wiP, h, yp_may21, Nat.reduceAdd, Nat.reduceMul, Nat.reduceSub, Nat.zero_add, Nat.add_zero, yp_LT, yp_nA, yp_nM, yp_ltF, yp_ltT, yp_leF, yp_leT, yp_eqF, eq_self, yp_eqM, lt1, yp_sbN, yp_sb2N, ↓reduceIte, ↓yp_iP11, ↓yp_iP12, ↓yp_m0P]) rfl yp_n2
  · exact yp_PM_e1 hR hI (by simp (disch := omega) only [fX11_light_j89, fX11_light_j80, fX11_light_j30, fX11_light_j29, fX11_light, hA, ↓yp_bdP hc, ↓h0, q1, h, ↓yp_smL, ↓yp_smR, Nat.reduceAdd, Nat.reduceMul, Nat.reduceSub, Nat.zero_add, Nat.add_zero, yp_LT, yp_nA, yp_nM, yp_ltF, yp_ltT, yp_leF, yp_leT, yp_eqF, eq_self, yp_eqM, lt1, yp_sbN, yp_sb2N, ↓reduceIte, ↓yp_iP11, ↓yp_iP12, ↓yp_m0P]) (fun m hm => by simp (disch := omega) only [fX12_light_j47, fX12_light_j94, fX12_light_j75, fX12_light_j39, fX12_light_j38, fX12_light, hM, yp_m0e, yp_m_isF1 hm hI hf, q2 m hm, ↓yp_wiP, h, yp_may21, Nat.reduceAdd, Nat.reduceMul, Nat.reduceSub, Nat.zero_add, Nat.add_zero, yp_LT, yp_nA, yp_nM, yp_ltF, yp_ltT, yp_leF, yp_leT, yp_eqF, eq_self, yp_eqM, lt1, yp_sbN, yp_sb2N, ↓reduceIte, ↓yp_iP11, ↓yp_iP12, ↓yp_m0P]) rfl yp_n2
  have hn0 : (yp_N 0 : Int32) ≤ yp_N n := by rw [yp_leN (by omega) (by omega)]; omega
  obtain ⟨b, hb⟩ := yp_lt_c hR hI f s n
  rcases hb with ⟨b1', b2, b3, b4⟩ | hb
  rotate_left
  · exact absurd hn0 hb
  rcases yp_bt01 (yp_N s) f with hbt | hbt
  · have hbt' := hbt
    unfold yp_bt at hbt'
    refine yp_PM_v hR hI (v := yp_N 0) (m1 := mm) ?_ yp_FC.rf (fun m hm => ?_)
    · simp (disch := omega) only [fX11_light_j89, fX11_light_j80, fX11_light_j30, fX11_light_j29, fX11_light, hA, ↓yp_bdP hc, ↓hn, q1, ↓yp_smL, ↓yp_smR, hbt', Nat.reduceAdd, Nat.reduceMul, Nat.reduceSub, Nat.zero_add, Nat.add_zero, yp_LT, yp_nA, yp_nM, yp_ltF, yp_ltT, yp_leF, yp_leT, yp_eqF, eq_self, yp_eqM, lt1, yp_sbN, yp_sb2N, ↓reduceIte, ↓yp_iP11, ↓yp_iP12, ↓yp_m0P]
    · obtain ⟨m2, a1, a2, a3, a4, a5, a6⟩ := yp_take_MA hm
      obtain ⟨c, c1, c2, c3, c4⟩ := yp_lt_m hI a2 a3 f s n hs hn0
      exact ⟨m2, by simp (disch := omega) only [fX12_light_j47, fX12_light_j94, fX12_light_j75, fX12_light_j39, fX12_light_j38, fX12_light, hM, yp_m0e, yp_m_isF1 hm hI hf, q2 m hm, ↓yp_wiP, yp_mayG, a1, c1, hbt', Nat.reduceAdd, Nat.reduceMul, Nat.reduceSub, Nat.zero_add, Nat.add_zero, yp_LT, yp_nA, yp_nM, yp_ltF, yp_ltT, yp_leF, yp_leT, yp_eqF, eq_self, yp_eqM, lt1, yp_sbN, yp_sb2N, ↓reduceIte, ↓yp_iP11, ↓yp_iP12, ↓yp_m0P], yp_FM.fs a6⟩
  · have hbt' : ((yp_N s >>> (yp_N f &&& yp_N 31)) &&& yp_N 1 = yp_N 0) = False := by unfold yp_bt at hbt; rw [hbt]; exact eq_false (by decide)
    refine yp_PM_v hR hI (v := mnI (yp_W (yp_sH A) f) (yp_N b)) (m1 := mm) ?_ yp_FC.rf (fun m hm => ?_)
    · simp (disch := omega) only [fX11_light_j89, fX11_light_j80, fX11_light_j30, fX11_light_j29, fX11_light, hA, ↓yp_bdP hc, ↓hn, q1, ↓yp_smL, ↓yp_smR, hbt', b1', yp_h_all (yp_hs33 B) hR.2.1 f hf6, Nat.reduceAdd, Nat.reduceMul, Nat.reduceSub, Nat.zero_add, Nat.add_zero, yp_LT, yp_nA, yp_nM, yp_ltF, yp_ltT, yp_leF, yp_leT, yp_eqF, eq_self, yp_eqM, lt1, yp_sbN, yp_sb2N, ↓reduceIte, ↓yp_iP11, ↓yp_iP12, ↓yp_m0P]
    · obtain ⟨m2, a1, a2, a3, a4, a5, a6⟩ := yp_take_MA hm
      obtain ⟨c, c1, c2, c3, c4⟩ := yp_lt_m hI a2 a3 f s n hs hn0
      have e1 : mnI (yp_W (yp_sH A) f) (yp_N b) = yp_bdd (yp_sH A) (yp_N c) f := by
        rw [← yp_mn_bdd]
        have hW := hI.2.1.W f hf6
        rcases c4 with c4 | c4
        · have hb28 : 2800 ≤ b := by
            rcases b4 with b4 | b4
            · omega
            · by_cases e : 2800 ≤ b
              · exact e
              · exact absurd (Int32.le_trans (yp_gv_le hI.2.1 (yp_N s) (show b + 1 ≤ c by omega) (by omega)) c3) b4
          rw [yp_eqTi, yp_mnTi, yp_mnTi, yp_tiN (by omega), yp_tiN (by omega), if_neg (by omega), if_neg (by omega)]
        · have hbc : b ≤ c := by
            by_cases e : b ≤ c
            · exact e
            · exact absurd (Int32.le_trans (yp_gv_le hI.2.1 (yp_N s) (show c + 1 ≤ b by omega) (by omega)) b3) c4
          have hcb : c ≤ b := by
            rcases b4 with b4 | b4
            · omega
            · by_cases e : c ≤ b
              · exact e
              · exact absurd (Int32.le_trans (yp_gv_le hI.2.1 (yp_N s) (show b + 1 ≤ c by omega) (by omega)) c3) b4
          rw [show b = c by omega]
      rw [e1]
      exact ⟨m2, by simp (disch := omega) only [fX12_light_j47, fX12_light_j94, fX12_light_j75, fX12_light_j39, fX12_light_j38, fX12_light, hM, yp_m0e, yp_m_isF1 hm hI hf, q2 m hm, ↓yp_wiP, yp_mayG, a1, c1, hbt', yp_m_bounded a2 f hf6, Nat.reduceAdd, Nat.reduceMul, Nat.reduceSub, Nat.zero_add, Nat.add_zero, yp_LT, yp_nA, yp_nM, yp_ltF, yp_ltT, yp_leF, yp_leT, yp_eqF, eq_self, yp_eqM, lt1, yp_sbN, yp_sb2N, ↓reduceIte, ↓yp_iP11, ↓yp_iP12, ↓yp_m0P], yp_FM.fs a6⟩
end ASK8

def yp_HM (mm : Mem) (n : Nat) (H : Nat → Int32) : Prop := ∀ k, k < 175 → mm n k = H k
set_option maxHeartbeats 1000000 in
theorem yp_mS (B : Nat) : rR (yp_SH B) 12 (B + 517) 37 = some (B + 533) ∧ isO (yp_SH B) 12 (B + 517) = some () ∧ (∀ mm k, rI (yp_SH B) mm 12 (B + 517) k = some (mm (B + 517) k)) ∧ (∀ mm k v, wI (yp_SH B) mm 12 (B + 517) k v = some (up2 mm (B + 517) k v)) ∧ (∀ mm k, k < 175 → aL (yp_SH B) mm (B + 533) (yp_N k) = some (mm (B + 533) k)) ∧ (∀ mm k v, k < 175 → aS (yp_SH B) mm (B + 533) (yp_N k) v = some (up2 mm (B + 533) k v)) ∧ rR (yp_SH B) 12 (B + 517) 36 = some (B + 532) ∧ (∀ mm k, k < 175 → aL (yp_SH B) mm (B + 532) (yp_N k) = some (mm (B + 532) k)) ∧ (∀ mm k v, k < 175 → aS (yp_SH B) mm (B + 532) (yp_N k) v = some (up2 mm (B + 532) k v)) := by
  refine ⟨?_, ?_, ?_, ?_, fun mm k h => yp_aLN (yp_sa533 B) mm k h (by omega), fun mm k v h => yp_aSN (yp_sa533 B) mm k v h (by omega), ?_, fun mm k h => yp_aLN (yp_sa532 B) mm k h (by omega), fun mm k v h => yp_aSN (yp_sa532 B) mm k v h (by omega)⟩
  · rw [rR, yp_so517]; rfl
  · rw [isO, yp_so517]; rfl
  · intro mm k; rw [rI, yp_so517]; rfl
  · intro mm k v; rw [wI, yp_so517]; rfl
  · rw [rR, yp_so517]; rfl
set_option maxHeartbeats 1000000 in
theorem yp_m_in (a f c : Nat) : fX12_in (yp_N a) (yp_N f) (yp_N c) = some (yp_N (a + (f * 7 + c))) := by
  simp (disch := omega) only [fX12_in, Nat.reduceLeDiff, Nat.reduceLT, Nat.reduceAdd, Nat.reduceMul, Nat.reduceSub, Nat.reduceEqDiff, Nat.le_refl, Nat.lt_irrefl, Nat.zero_add, Nat.add_zero, yp_LT, yp_nA, yp_nM, yp_leN, yp_ltN, yp_eqN, lt1, yp_sb, yp_sb2, if_false, if_true]
  rw [show a + 7 * f + c = a + (f * 7 + c) by omega]
section REF
variable {B : Nat} {mm : Mem} {H : Nat → Int32} {nf : Nat}
set_option maxHeartbeats 1000000 in
theorem yp_m_sum (hM : yp_HM mm (B + 533) H) (p m : Nat) (h : p + m ≤ 175) : fX12_sumOf (yp_SH B) (B + 517) (yp_N p) (yp_N m) mm = some (yp_sm (fun i => H (p + i)) m) := by
  have hA := yp_mS B
  simp (disch := omega) only [fX12_sumOf, fX12_sumOf_j29, Nat.reduceLeDiff, Nat.reduceLT, Nat.reduceAdd, Nat.reduceMul, Nat.reduceSub, Nat.reduceEqDiff, Nat.le_refl, Nat.lt_irrefl, Nat.zero_add, Nat.add_zero, yp_LT, yp_nA, yp_nM, yp_leN, yp_ltN, yp_eqN, lt1, yp_sb, yp_sb2, if_false, if_true]
  refine Eq.trans (yp_lpB (fun k a => (a, yp_N k)) (fun k a => a + H (p + k)) (id) (m) (yp_N 0) (by rw [yp_FUe]; omega) rfl (fun k z hk hz => ?_) (fun z hz => ?_)) ?_
  · have e := hM (p + k) (by omega)
    simp (disch := omega) only [fX12_sumOf_b5, hA, e, (show (m ≤ k) = False by simp only [eq_iff_iff, iff_false]; omega), Nat.reduceLeDiff, Nat.reduceLT, Nat.reduceAdd, Nat.reduceMul, Nat.reduceSub, Nat.reduceEqDiff, Nat.le_refl, Nat.lt_irrefl, Nat.zero_add, Nat.add_zero, yp_LT, yp_nA, yp_nM, yp_leN, yp_ltN, yp_eqN, lt1, yp_sb, yp_sb2, if_false, if_true]
  · simp (disch := omega) only [fX12_sumOf_b5, hA, Nat.reduceLeDiff, Nat.reduceLT, Nat.reduceAdd, Nat.reduceMul, Nat.reduceSub, Nat.reduceEqDiff, Nat.le_refl, Nat.lt_irrefl, Nat.zero_add, Nat.add_zero, yp_LT, yp_nA, yp_nM, yp_leN, yp_ltN, yp_eqN, lt1, yp_sb, yp_sb2, if_false, if_true]
    rfl
  · rfl
set_option maxHeartbeats 1000000 in
theorem yp_m_within (hM : yp_HM mm (B + 533) H) (f : Nat) (hf : f < 6) : fX12_withinOf (yp_SH B) (B + 517) (yp_N f) mm = some (yp_W H f) := by
  have hA := yp_mS B
  simp (disch := omega) only [fX12_withinOf, yp_m_in, hA, Nat.reduceLeDiff, Nat.reduceLT, Nat.reduceAdd, Nat.reduceMul, Nat.reduceSub, Nat.reduceEqDiff, Nat.le_refl, Nat.lt_irrefl, Nat.zero_add, Nat.add_zero, yp_LT, yp_nA, yp_nM, yp_leN, yp_ltN, yp_eqN, lt1, yp_sb, yp_sb2, if_false, if_true]
  rw [yp_m_sum hM _ _ (by omega)]
  rfl
set_option maxHeartbeats 1000000 in
theorem yp_m_wall (hM : yp_HM mm (B + 533) H) (f : Nat) (hf : f < 6) : fX12_wallOf (yp_SH B) (B + 517) (yp_N f) mm = some (yp_sm (fun i => H (42 + f * 7 + i)) 7) := by
  have hA := yp_mS B
  simp (disch := omega) only [fX12_wallOf, yp_m_in, hA, Nat.reduceLeDiff, Nat.reduceLT, Nat.reduceAdd, Nat.reduceMul, Nat.reduceSub, Nat.reduceEqDiff, Nat.le_refl, Nat.lt_irrefl, Nat.zero_add, Nat.add_zero, yp_LT, yp_nA, yp_nM, yp_leN, yp_ltN, yp_eqN, lt1, yp_sb, yp_sb2, if_false, if_true]
  rw [yp_m_sum hM _ _ (by omega)]
  rfl
def yp_rwG (H : Nat → Int32) (f k : Nat) (a : Int32) : Int32 := if a = yp_N 0 then yp_N 0 else if H (f * 7 + (k + 1)) = H (f * 7) then yp_N 1 else yp_N 0
def yp_rW (H : Nat → Int32) (f : Nat) : Int32 := yp_fo (yp_rwG H f) 6 (if H (f * 7) ≤ yp_N 0 then yp_N 0 else yp_N 1)
set_option maxHeartbeats 1000000 in
theorem yp_rw01 (H : Nat → Int32) (f : Nat) : ∀ n a, (a = yp_N 0 ∨ a = yp_N 1) → (yp_fo (yp_rwG H f) n a = yp_N 0 ∨ yp_fo (yp_rwG H f) n a = yp_N 1) := by
  intro n
  induction n with
  | zero => intro a h; exact h
  | succ n ih =>
    intro a h
    show yp_rwG H f n (yp_fo (yp_rwG H f) n a) = yp_N 0 ∨ yp_rwG H f n (yp_fo (yp_rwG H f) n a) = yp_N 1
    generalize yp_fo (yp_rwG H f) n a = z
    unfold yp_rwG
    split
    · exact .inl rfl
    · split
      · exact .inr rfl
      · exact .inl rfl
set_option maxHeartbeats 1000000 in
theorem yp_ck01 {a : Int32} (h : a = yp_N 0 ∨ a = yp_N 1) : ckZ a = some a := by
  rcases h with rfl | rfl <;> rfl
set_option maxHeartbeats 1000000 in
theorem yp_m_white (hM : yp_HM mm (B + 533) H) (f : Nat) (hf : f < 6) : fX12_isWhite (yp_SH B) (B + 517) (yp_N f) mm = some (yp_rW H f) := by
  have hA := yp_mS B
  have e0 := hM (f * 7) (by omega)
  have key : ∀ a0, (a0 = yp_N 0 ∨ a0 = yp_N 1) → fX12_isWhite_j19 (yp_SH B) (B + 517) (yp_N f) a0 mm = some (yp_fo (yp_rwG H f) 6 a0) := by
    intro a0 h0
    simp (disch := omega) only [fX12_isWhite_j19, Nat.reduceLeDiff, Nat.reduceLT, Nat.reduceAdd, Nat.reduceMul, Nat.reduceSub, Nat.reduceEqDiff, Nat.le_refl, Nat.lt_irrefl, Nat.zero_add, Nat.add_zero, yp_LT, yp_nA, yp_nM, yp_leN, yp_ltN, yp_eqN, lt1, yp_sb, yp_sb2, if_false, if_true]
    refine Eq.trans (yp_lpB (fun k a => (a, yp_N (k + 1))) (yp_rwG H f) (id) (6) (a0) (by rw [yp_FUe]; omega) rfl (fun k z hk hz => ?_) (fun z hz => ?_)) ?_
    · have e1 := hM (f * 7 + (k + 1)) (by omega)
      simp (disch := omega) only [fX12_isWhite_b22, fX12_isWhite_j61, fX12_isWhite_j62, hA, yp_m_in, e0, e1, (show (7 ≤ k + 1) = False by simp only [eq_iff_iff, iff_false]; omega), yp_rwG, Nat.reduceLeDiff, Nat.reduceLT, Nat.reduceAdd, Nat.reduceMul, Nat.reduceSub, Nat.reduceEqDiff, Nat.le_refl, Nat.lt_irrefl, Nat.zero_add, Nat.add_zero, yp_LT, yp_nA, yp_nM, yp_leN, yp_ltN, yp_eqN, lt1, yp_sb, yp_sb2, if_false, if_true]
      all_goals ((repeat' split) <;> first | rfl | (simp_all [id]; done) | (simp_all [id, Nat.add_assoc]; done) | (simp_all [id] <;> rfl))
    · simp (disch := omega) only [fX12_isWhite_b22, (show (7 ≤ 6 + 1) = True by simp only [eq_iff_iff, iff_true]; omega), Nat.reduceLeDiff, Nat.reduceLT, Nat.reduceAdd, Nat.reduceMul, Nat.reduceSub, Nat.reduceEqDiff, Nat.le_refl, Nat.lt_irrefl, Nat.zero_add, Nat.add_zero, yp_LT, yp_nA, yp_nM, yp_leN, yp_ltN, yp_eqN, lt1, yp_sb, yp_sb2, if_false, if_true]
      rfl
    · simp only [fX12_isWhite_j69, id, yp_ck01 (yp_rw01 H f 6 a0 h0), yp_sb]
  simp (disch := omega) only [fX12_isWhite, hA, yp_m_in, e0, key (yp_N 0) (.inl rfl), key (yp_N 1) (.inr rfl), yp_rW, Nat.reduceLeDiff, Nat.reduceLT, Nat.reduceAdd, Nat.reduceMul, Nat.reduceSub, Nat.reduceEqDiff, Nat.le_refl, Nat.lt_irrefl, Nat.zero_add, Nat.add_zero, yp_LT, yp_nA, yp_nM, yp_leN, yp_ltN, yp_eqN, lt1, yp_sb, yp_sb2, if_false, if_true]
  split <;> rfl
set_option maxHeartbeats 1000000 in
theorem yp_m_whites (hM : yp_HM mm (B + 533) H) (hF : mm (B + 517) 17 = yp_N nf) (hn : nf ≤ 6) : fX12_whites (yp_SH B) (B + 517) mm = some (yp_fo (fun k a => a ||| (if yp_rW H k = yp_N 0 then yp_N 0 else yp_b1 k)) nf (yp_N 0)) := by
  have hA := yp_mS B
  simp (disch := omega) only [fX12_whites, fX12_whites_j36, Nat.reduceLeDiff, Nat.reduceLT, Nat.reduceAdd, Nat.reduceMul, Nat.reduceSub, Nat.reduceEqDiff, Nat.le_refl, Nat.lt_irrefl, Nat.zero_add, Nat.add_zero, yp_LT, yp_nA, yp_nM, yp_leN, yp_ltN, yp_eqN, lt1, yp_sb, yp_sb2, if_false, if_true]
  refine Eq.trans (yp_lpB (fun k a => (a, yp_N k)) (fun k a => a ||| (if yp_rW H k = yp_N 0 then yp_N 0 else yp_b1 k)) (id) (nf) (yp_N 0) (by rw [yp_FUe]; omega) rfl (fun k z hk hz => ?_) (fun z hz => ?_)) ?_
  · simp (disch := omega) only [fX12_whites_b4, fX12_whites_j28, hA, hF, yp_m_white hM k (by omega), (show (nf ≤ k) = False by simp only [eq_iff_iff, iff_false]; omega), yp_b1, Nat.reduceLeDiff, Nat.reduceLT, Nat.reduceAdd, Nat.reduceMul, Nat.reduceSub, Nat.reduceEqDiff, Nat.le_refl, Nat.lt_irrefl, Nat.zero_add, Nat.add_zero, yp_LT, yp_nA, yp_nM, yp_leN, yp_ltN, yp_eqN, lt1, yp_sb, yp_sb2, if_false, if_true]
    all_goals ((repeat' split) <;> first | rfl | (simp_all [id]; done) | (simp_all [id, Nat.add_assoc]; done) | (simp_all [id] <;> rfl))
  · simp (disch := omega) only [fX12_whites_b4, hA, hF, Nat.reduceLeDiff, Nat.reduceLT, Nat.reduceAdd, Nat.reduceMul, Nat.reduceSub, Nat.reduceEqDiff, Nat.le_refl, Nat.lt_irrefl, Nat.zero_add, Nat.add_zero, yp_LT, yp_nA, yp_nM, yp_leN, yp_ltN, yp_eqN, lt1, yp_sb, yp_sb2, if_false, if_true]
    rfl
  · rfl
set_option maxHeartbeats 1000000 in
theorem yp_m_scat (hM : yp_HM mm (B + 533) H) (hF : mm (B + 517) 17 = yp_N nf) (hn : nf ≤ 6) : fX12_scattered (yp_SH B) (B + 517) mm = some (yp_fo (fun k a => a ||| (if yp_sm (fun i => H (42 + k * 7 + i)) 7 ≤ yp_N 0 then yp_N 0 else yp_b1 k)) nf (yp_N 0)) := by
  have hA := yp_mS B
  simp (disch := omega) only [fX12_scattered, fX12_scattered_j36, Nat.reduceLeDiff, Nat.reduceLT, Nat.reduceAdd, Nat.reduceMul, Nat.reduceSub, Nat.reduceEqDiff, Nat.le_refl, Nat.lt_irrefl, Nat.zero_add, Nat.add_zero, yp_LT, yp_nA, yp_nM, yp_leN, yp_ltN, yp_eqN, lt1, yp_sb, yp_sb2, if_false, if_true]
  refine Eq.trans (yp_lpB (fun k a => (a, yp_N k)) (fun k a => a ||| (if yp_sm (fun i => H (42 + k * 7 + i)) 7 ≤ yp_N 0 then yp_N 0 else yp_b1 k)) (id) (nf) (yp_N 0) (by rw [yp_FUe]; omega) rfl (fun k z hk hz => ?_) (fun z hz => ?_)) ?_
  · simp (disch := omega) only [fX12_scattered_b4, fX12_scattered_j28, hA, hF, yp_m_wall hM k (by omega), (show (nf ≤ k) = False by simp only [eq_iff_iff, iff_false]; omega), yp_b1, Nat.reduceLeDiff, Nat.reduceLT, Nat.reduceAdd, Nat.reduceMul, Nat.reduceSub, Nat.reduceEqDiff, Nat.le_refl, Nat.lt_irrefl, Nat.zero_add, Nat.add_zero, yp_LT, yp_nA, yp_nM, yp_leN, yp_ltN, yp_eqN, lt1, yp_sb, yp_sb2, if_false, if_true]
    all_goals ((repeat' split) <;> first | rfl | (simp_all [id]; done) | (simp_all [id, Nat.add_assoc]; done) | (simp_all [id] <;> rfl))
  · simp (disch := omega) only [fX12_scattered_b4, hA, hF, Nat.reduceLeDiff, Nat.reduceLT, Nat.reduceAdd, Nat.reduceMul, Nat.reduceSub, Nat.reduceEqDiff, Nat.le_refl, Nat.lt_irrefl, Nat.zero_add, Nat.add_zero, yp_LT, yp_nA, yp_nM, yp_leN, yp_ltN, yp_eqN, lt1, yp_sb, yp_sb2, if_false, if_true]
    rfl
  · rfl
set_option maxHeartbeats 1000000 in
theorem yp_m_dark (hM : yp_HM mm (B + 533) H) (f : Nat) (hf : f < 6) : fX12_darkOf (yp_SH B) (B + 517) (yp_N f) mm = some (yp_fo (fun k a => a ||| (if H (f * 7 + k) = yp_N 0 ∧ H (42 + (f * 7 + k)) = yp_N 0 then yp_b1 k else yp_N 0)) 7 (yp_N 0)) := by
  have hA := yp_mS B
  simp (disch := omega) only [fX12_darkOf, fX12_darkOf_j55, Nat.reduceLeDiff, Nat.reduceLT, Nat.reduceAdd, Nat.reduceMul, Nat.reduceSub, Nat.reduceEqDiff, Nat.le_refl, Nat.lt_irrefl, Nat.zero_add, Nat.add_zero, yp_LT, yp_nA, yp_nM, yp_leN, yp_ltN, yp_eqN, lt1, yp_sb, yp_sb2, if_false, if_true]
  refine Eq.trans (yp_lpB (fun k a => (a, yp_N k)) (fun k a => a ||| (if H (f * 7 + k) = yp_N 0 ∧ H (42 + (f * 7 + k)) = yp_N 0 then yp_b1 k else yp_N 0)) (id) (7) (yp_N 0) (by rw [yp_FUe]; omega) rfl (fun k z hk hz => ?_) (fun z hz => ?_)) ?_
  · have e1 := hM (f * 7 + k) (by omega)
    have e2 := hM (42 + (f * 7 + k)) (by omega)
    simp (disch := omega) only [fX12_darkOf_b4, fX12_darkOf_j46, fX12_darkOf_j47, hA, yp_m_in, e1, e2, (show (7 ≤ k) = False by simp only [eq_iff_iff, iff_false]; omega), yp_b1, Nat.reduceLeDiff, Nat.reduceLT, Nat.reduceAdd, Nat.reduceMul, Nat.reduceSub, Nat.reduceEqDiff, Nat.le_refl, Nat.lt_irrefl, Nat.zero_add, Nat.add_zero, yp_LT, yp_nA, yp_nM, yp_leN, yp_ltN, yp_eqN, lt1, yp_sb, yp_sb2, if_false, if_true]
    all_goals ((repeat' split) <;> first | rfl | (simp_all [id]; done) | (simp_all [id, Nat.add_assoc]; done) | (simp_all [id] <;> rfl))
  · simp (disch := omega) only [fX12_darkOf_b4, Nat.reduceLeDiff, Nat.reduceLT, Nat.reduceAdd, Nat.reduceMul, Nat.reduceSub, Nat.reduceEqDiff, Nat.le_refl, Nat.lt_irrefl, Nat.zero_add, Nat.add_zero, yp_LT, yp_nA, yp_nM, yp_leN, yp_ltN, yp_eqN, lt1, yp_sb, yp_sb2, if_false, if_true]
    rfl
  · rfl
def yp_spG (H : Nat → Int32) (f : Nat) (w : Int32) (k : Nat) (a : Int32) : Int32 := if H (42 + (f * 7 + k)) = yp_N 0 then a else if a = -yp_N 1 then H (84 + (f * 7 + k)) else if w = yp_N 0 then (if a ≤ H (84 + (f * 7 + k)) then a else H (84 + (f * 7 + k))) else (if H (84 + (f * 7 + k)) ≤ a then a else H (84 + (f * 7 + k)))
set_option maxHeartbeats 1000000 in
theorem yp_m_spot (hM : yp_HM mm (B + 533) H) (f : Nat) (hf : f < 6) (w : Int32) : fX12_spotOf (yp_SH B) (B + 517) (yp_N f) w mm = some (yp_fo (yp_spG H f w) 7 (-yp_N 1)) := by
  have hA := yp_mS B
  simp (disch := omega) only [fX12_spotOf, fX12_spotOf_j83, Nat.reduceLeDiff, Nat.reduceLT, Nat.reduceAdd, Nat.reduceMul, Nat.reduceSub, Nat.reduceEqDiff, Nat.le_refl, Nat.lt_irrefl, Nat.zero_add, Nat.add_zero, yp_LT, yp_nA, yp_nM, yp_leN, yp_ltN, yp_eqN, lt1, yp_sb, yp_sb2, if_false, if_true]
  refine Eq.trans (yp_lpB (fun k a => (a, yp_N k)) (yp_spG H f w) (id) (7) (-yp_N 1) (by rw [yp_FUe]; omega) rfl (fun k z hk hz => ?_) (fun z hz => ?_)) ?_
  · have e1 := hM (84 + (f * 7 + k)) (by omega)
    have e2 := hM (42 + (f * 7 + k)) (by omega)
    simp (disch := omega) only [fX12_spotOf_b5, fX12_spotOf_j77, fX12_spotOf_j76, fX12_spotOf_j75, fX12_spotOf_j70, hA, yp_m_in, e1, e2, (show (7 ≤ k) = False by simp only [eq_iff_iff, iff_false]; omega), yp_spG, Nat.reduceLeDiff, Nat.reduceLT, Nat.reduceAdd, Nat.reduceMul, Nat.reduceSub, Nat.reduceEqDiff, Nat.le_refl, Nat.lt_irrefl, Nat.zero_add, Nat.add_zero, yp_LT, yp_nA, yp_nM, yp_leN, yp_ltN, yp_eqN, lt1, yp_sb, yp_sb2, if_false, if_true]
    all_goals ((repeat' split) <;> first | rfl | (simp_all [id]; done) | (simp_all [id, Nat.add_assoc]; done) | (simp_all [id] <;> rfl))
  · simp (disch := omega) only [fX12_spotOf_b5, Nat.reduceLeDiff, Nat.reduceLT, Nat.reduceAdd, Nat.reduceMul, Nat.reduceSub, Nat.reduceEqDiff, Nat.le_refl, Nat.lt_irrefl, Nat.zero_add, Nat.add_zero, yp_LT, yp_nA, yp_nM, yp_leN, yp_ltN, yp_eqN, lt1, yp_sb, yp_sb2, if_false, if_true]
    rfl
  · rfl
def yp_apG (H : Nat → Int32) (p : Int32) (k : Nat) (a : Int32) : Int32 := if H (84 + k) = p then a + H (42 + k) else a + yp_N 0
set_option maxHeartbeats 1000000 in
theorem yp_m_atp (hM : yp_HM mm (B + 533) H) (p : Int32) : fX12_atPlace (yp_SH B) (B + 517) p mm = some (yp_fo (yp_apG H p) 42 (yp_N 0)) := by
  have hA := yp_mS B
  simp (disch := omega) only [fX12_atPlace, fX12_atPlace_j45, Nat.reduceLeDiff, Nat.reduceLT, Nat.reduceAdd, Nat.reduceMul, Nat.reduceSub, Nat.reduceEqDiff, Nat.le_refl, Nat.lt_irrefl, Nat.zero_add, Nat.add_zero, yp_LT, yp_nA, yp_nM, yp_leN, yp_ltN, yp_eqN, lt1, yp_sb, yp_sb2, if_false, if_true]
  refine Eq.trans (yp_lpB (fun k a => (a, yp_N k)) (yp_apG H p) (id) (42) (yp_N 0) (by rw [yp_FUe]; omega) rfl (fun k z hk hz => ?_) (fun z hz => ?_)) ?_
  · have e1 := hM (84 + k) (by omega)
    have e2 := hM (42 + k) (by omega)
    simp (disch := omega) only [fX12_atPlace_b4, fX12_atPlace_j37, hA, e1, e2, (show (42 ≤ k) = False by simp only [eq_iff_iff, iff_false]; omega), yp_apG, Nat.reduceLeDiff, Nat.reduceLT, Nat.reduceAdd, Nat.reduceMul, Nat.reduceSub, Nat.reduceEqDiff, Nat.le_refl, Nat.lt_irrefl, Nat.zero_add, Nat.add_zero, yp_LT, yp_nA, yp_nM, yp_leN, yp_ltN, yp_eqN, lt1, yp_sb, yp_sb2, if_false, if_true]
    all_goals ((repeat' split) <;> first | rfl | (simp_all [id]; done) | (simp_all [id, Nat.add_assoc]; done) | (simp_all [id] <;> rfl))
  · simp (disch := omega) only [fX12_atPlace_b4, Nat.reduceLeDiff, Nat.reduceLT, Nat.reduceAdd, Nat.reduceMul, Nat.reduceSub, Nat.reduceEqDiff, Nat.le_refl, Nat.lt_irrefl, Nat.zero_add, Nat.add_zero, yp_LT, yp_nA, yp_nM, yp_leN, yp_ltN, yp_eqN, lt1, yp_sb, yp_sb2, if_false, if_true]
    rfl
  · rfl
def yp_rsG (H : Nat → Int32) (s : Int32) (nf c : Nat) (a : Int32 × Int32) : Int32 × Int32 := (if c = 0 then yp_col H s c nf else if a.1 ≤ yp_col H s c nf then a.1 else yp_col H s c nf, if yp_col H s c nf ≤ a.2 then a.2 else yp_col H s c nf)
set_option maxHeartbeats 1000000 in
theorem yp_m_spread (hM : yp_HM mm (B + 533) H) (hF : mm (B + 517) 17 = yp_N nf) (hn : nf ≤ 6) (s : Int32) : fX12_spreadOf (yp_SH B) (B + 517) s mm = some ((yp_fo (yp_rsG H s nf) 7 (yp_N 0, yp_N 0)).2 - (yp_fo (yp_rsG H s nf) 7 (yp_N 0, yp_N 0)).1) := by
  have hA := yp_mS B
  simp (disch := omega) only [fX12_spreadOf, Nat.reduceLeDiff, Nat.reduceLT, Nat.reduceAdd, Nat.reduceMul, Nat.reduceSub, Nat.reduceEqDiff, Nat.le_refl, Nat.lt_irrefl, Nat.zero_add, Nat.add_zero, yp_LT, yp_nA, yp_nM, yp_leN, yp_ltN, yp_eqN, lt1, yp_sb, yp_sb2, if_false, if_true]
  refine Eq.trans (yp_lpB (fun k (a : Int32 × Int32) => (a.1, a.2, yp_N k)) (yp_rsG H s nf) (id) (7) ((yp_N 0, yp_N 0)) (by rw [yp_FUe]; omega) rfl (fun k z hk hz => ?_) (fun z hz => ?_)) ?_
  · simp (disch := omega) only [fX12_spreadOf_b7, (show (7 ≤ k) = False by simp only [eq_iff_iff, iff_false]; omega), Nat.reduceLeDiff, Nat.reduceLT, Nat.reduceAdd, Nat.reduceMul, Nat.reduceSub, Nat.reduceEqDiff, Nat.le_refl, Nat.lt_irrefl, Nat.zero_add, Nat.add_zero, yp_LT, yp_nA, yp_nM, yp_leN, yp_ltN, yp_eqN, lt1, yp_sb, yp_sb2, if_false, if_true]
    refine Eq.trans (yp_lpB (fun j b => (b, yp_N j)) (fun f b => b + yp_bt s f * H (f * 7 + k)) id nf (yp_N 0) (by rw [yp_FUe]; omega) rfl (fun j b hj _ => ?_) (fun b _ => ?_)) ?_
    · have e1 := hM (j * 7 + k) (by omega)
      simp (disch := omega) only [fX12_spreadOf_b20, hA, hF, yp_m_in, e1, (show (nf ≤ j) = False by simp only [eq_iff_iff, iff_false]; omega), yp_bt, Nat.reduceLeDiff, Nat.reduceLT, Nat.reduceAdd, Nat.reduceMul, Nat.reduceSub, Nat.reduceEqDiff, Nat.le_refl, Nat.lt_irrefl, Nat.zero_add, Nat.add_zero, yp_LT, yp_nA, yp_nM, yp_leN, yp_ltN, yp_eqN, lt1, yp_sb, yp_sb2, if_false, if_true]
    · simp (disch := omega) only [fX12_spreadOf_b20, hA, hF, Nat.reduceLeDiff, Nat.reduceLT, Nat.reduceAdd, Nat.reduceMul, Nat.reduceSub, Nat.reduceEqDiff, Nat.le_refl, Nat.lt_irrefl, Nat.zero_add, Nat.add_zero, yp_LT, yp_nA, yp_nM, yp_leN, yp_ltN, yp_eqN, lt1, yp_sb, yp_sb2, if_false, if_true]
      rfl
    · have e : yp_fo (fun f b => b + yp_bt s f * H (f * 7 + k)) nf (yp_N 0) = yp_col H s k nf := rfl
      rw [e]
      generalize hc : yp_col H s k nf = c
      simp (disch := omega) only [fX12_spreadOf_j60, fX12_spreadOf_j77, fX12_spreadOf_j71, fX12_spreadOf_j90, yp_rsG, id, hc, Nat.reduceLeDiff, Nat.reduceLT, Nat.reduceAdd, Nat.reduceMul, Nat.reduceSub, Nat.reduceEqDiff, Nat.le_refl, Nat.lt_irrefl, Nat.zero_add, Nat.add_zero, yp_LT, yp_nA, yp_nM, yp_leN, yp_ltN, yp_eqN, lt1, yp_sb, yp_sb2, if_false, if_true]
      all_goals ((repeat' split) <;> first | rfl | (simp_all [id]; done) | (simp_all [id, Nat.add_assoc]; done) | (simp_all [id] <;> rfl))
  · simp (disch := omega) only [fX12_spreadOf_b7, Nat.reduceLeDiff, Nat.reduceLT, Nat.reduceAdd, Nat.reduceMul, Nat.reduceSub, Nat.reduceEqDiff, Nat.le_refl, Nat.lt_irrefl, Nat.zero_add, Nat.add_zero, yp_LT, yp_nA, yp_nM, yp_leN, yp_ltN, yp_eqN, lt1, yp_sb, yp_sb2, if_false, if_true]
    rfl
  · rfl
set_option maxHeartbeats 1000000 in
theorem yp_m_wAll (hM : yp_HM mm (B + 533) H) (hF : mm (B + 517) 17 = yp_N nf) (hn : nf ≤ 6) (s : Int32) : fX12_withinAll (yp_SH B) (B + 517) s mm = some (yp_sm (fun f => yp_bt s f * yp_W H f) nf) := by
  have hA := yp_mS B
  simp (disch := omega) only [fX12_withinAll, fX12_withinAll_j32, Nat.reduceLeDiff, Nat.reduceLT, Nat.reduceAdd, Nat.reduceMul, Nat.reduceSub, Nat.reduceEqDiff, Nat.le_refl, Nat.lt_irrefl, Nat.zero_add, Nat.add_zero, yp_LT, yp_nA, yp_nM, yp_leN, yp_ltN, yp_eqN, lt1, yp_sb, yp_sb2, if_false, if_true]
  refine Eq.trans (yp_lpB (fun k a => (a, yp_N k)) (fun f a => a + yp_bt s f * yp_W H f) (id) (nf) (yp_N 0) (by rw [yp_FUe]; omega) rfl (fun k z hk hz => ?_) (fun z hz => ?_)) ?_
  · simp (disch := omega) only [fX12_withinAll_b4, hA, hF, yp_m_within hM k (by omega), (show (nf ≤ k) = False by simp only [eq_iff_iff, iff_false]; omega), yp_bt, Nat.reduceLeDiff, Nat.reduceLT, Nat.reduceAdd, Nat.reduceMul, Nat.reduceSub, Nat.reduceEqDiff, Nat.le_refl, Nat.lt_irrefl, Nat.zero_add, Nat.add_zero, yp_LT, yp_nA, yp_nM, yp_leN, yp_ltN, yp_eqN, lt1, yp_sb, yp_sb2, if_false, if_true]
  · simp (disch := omega) only [fX12_withinAll_b4, hA, hF, Nat.reduceLeDiff, Nat.reduceLT, Nat.reduceAdd, Nat.reduceMul, Nat.reduceSub, Nat.reduceEqDiff, Nat.le_refl, Nat.lt_irrefl, Nat.zero_add, Nat.add_zero, yp_LT, yp_nA, yp_nM, yp_leN, yp_ltN, yp_eqN, lt1, yp_sb, yp_sb2, if_false, if_true]
    rfl
  · rfl
def yp_bdd (H : Nat → Int32) (b : Int32) (f : Nat) : Int32 := if b ≤ yp_W H f then b else yp_W H f
set_option maxHeartbeats 1000000 in
theorem yp_m_bounded (hM : yp_HM mm (B + 533) H) (f : Nat) (hf : f < 6) (b : Int32) : fX12_bounded (yp_SH B) (B + 517) (yp_N f) b mm = some (yp_bdd H b f) := by
  have hA := yp_mS B
  simp (disch := omega) only [fX12_bounded, fX12_bounded_j18, hA, yp_m_within hM f hf, yp_bdd, Nat.reduceLeDiff, Nat.reduceLT, Nat.reduceAdd, Nat.reduceMul, Nat.reduceSub, Nat.reduceEqDiff, Nat.le_refl, Nat.lt_irrefl, Nat.zero_add, Nat.add_zero, yp_LT, yp_nA, yp_nM, yp_leN, yp_ltN, yp_eqN, lt1, yp_sb, yp_sb2, if_false, if_true]
  split <;> rfl
set_option maxHeartbeats 1000000 in
theorem yp_m_light (hM : yp_HM mm (B + 533) H) (hF : mm (B + 517) 17 = yp_N nf) (hn : nf ≤ 6) (s b : Int32) : fX12_lightBy (yp_SH B) (B + 517) s b mm = some (yp_sm (fun f => yp_bt s f * yp_bdd H b f) nf) := by
  have hA := yp_mS B
  simp (disch := omega) only [fX12_lightBy, fX12_lightBy_j37, Nat.reduceLeDiff, Nat.reduceLT, Nat.reduceAdd, Nat.reduceMul, Nat.reduceSub, Nat.reduceEqDiff, Nat.le_refl, Nat.lt_irrefl, Nat.zero_add, Nat.add_zero, yp_LT, yp_nA, yp_nM, yp_leN, yp_ltN, yp_eqN, lt1, yp_sb, yp_sb2, if_false, if_true]
  refine Eq.trans (yp_lpB (fun k a => (a, yp_N k)) (fun f a => a + yp_bt s f * yp_bdd H b f) (id) (nf) (yp_N 0) (by rw [yp_FUe]; omega) rfl (fun k z hk hz => ?_) (fun z hz => ?_)) ?_
  · simp (disch := omega) only [fX12_lightBy_b5, hA, hF, yp_m_bounded hM k (by omega), (show (nf ≤ k) = False by simp only [eq_iff_iff, iff_false]; omega), yp_bt, Nat.reduceLeDiff, Nat.reduceLT, Nat.reduceAdd, Nat.reduceMul, Nat.reduceSub, Nat.reduceEqDiff, Nat.le_refl, Nat.lt_irrefl, Nat.zero_add, Nat.add_zero, yp_LT, yp_nA, yp_nM, yp_leN, yp_ltN, yp_eqN, lt1, yp_sb, yp_sb2, if_false, if_true]
  · simp (disch := omega) only [fX12_lightBy_b5, hA, hF, Nat.reduceLeDiff, Nat.reduceLT, Nat.reduceAdd, Nat.reduceMul, Nat.reduceSub, Nat.reduceEqDiff, Nat.le_refl, Nat.lt_irrefl, Nat.zero_add, Nat.add_zero, yp_LT, yp_nA, yp_nM, yp_leN, yp_ltN, yp_eqN, lt1, yp_sb, yp_sb2, if_false, if_true]
    rfl
  · rfl
set_option maxHeartbeats 1000000 in
theorem yp_m_blur (hM : yp_HM mm (B + 533) H) (f : Nat) (hf : f < 6) : ∃ v, fX12_areTogether (yp_SH B) (B + 517) (yp_N f) mm = some v ∧ ((v = yp_N 1 ∧ yp_blur H f) ∨ (v = yp_N 0 ∧ ¬ yp_blur H f)) := by
  have hA := yp_mS B
  simp (disch := omega) only [fX12_areTogether, Nat.reduceLeDiff, Nat.reduceLT, Nat.reduceAdd, Nat.reduceMul, Nat.reduceSub, Nat.reduceEqDiff, Nat.le_refl, Nat.lt_irrefl, Nat.zero_add, Nat.add_zero, yp_LT, yp_nA, yp_nM, yp_leN, yp_ltN, yp_eqN, lt1, yp_sb, yp_sb2, if_false, if_true]
  obtain ⟨v, h1, h2⟩ := yp_lpI (step := fun st : Int32 => fX12_areTogether_b2 (yp_SH B) (B + 517) (yp_N f) st mm) (fun k s => s = yp_N k ∧ ∀ k' j, k' < k → j < k' → ¬ (yp_N 0 < H (42 + (f * 7 + k')) ∧ yp_N 0 < H (42 + (f * 7 + j)) ∧ H (84 + (f * 7 + k')) = H (84 + (f * 7 + j)))) (fun v => (v = .inl () ∧ yp_blur H f) ∨ (v = .inr () ∧ ¬ yp_blur H f)) 7 (fun k s hk hI => by
    obtain ⟨rfl, hI⟩ := hI
    by_cases hk7 : k = 7
    · subst hk7
      refine .inr ⟨.inr (), ?_, .inr ⟨rfl, ?_⟩⟩
      · simp (disch := omega) only [fX12_areTogether_b2, Nat.reduceLeDiff, Nat.reduceLT, Nat.reduceAdd, Nat.reduceMul, Nat.reduceSub, Nat.reduceEqDiff, Nat.le_refl, Nat.lt_irrefl, Nat.zero_add, Nat.add_zero, yp_LT, yp_nA, yp_nM, yp_leN, yp_ltN, yp_eqN, lt1, yp_sb, yp_sb2, if_false, if_true]
      · rintro ⟨k, j, h1, h2, h3⟩
        exact hI k j h1 h2 h3
    · obtain ⟨v, h1, h2⟩ := yp_lpI (step := fun st : Int32 => fX12_areTogether_b10 (yp_SH B) (B + 517) (yp_N f) (yp_N k) st mm) (fun j s => s = yp_N j ∧ ∀ j', j' < j → ¬ (yp_N 0 < H (42 + (f * 7 + k)) ∧ yp_N 0 < H (42 + (f * 7 + j')) ∧ H (84 + (f * 7 + k)) = H (84 + (f * 7 + j')))) (fun v => (v = .inl () ∧ yp_blur H f) ∨ (v = .inr () ∧ ∀ j', j' < k → ¬ (yp_N 0 < H (42 + (f * 7 + k)) ∧ yp_N 0 < H (42 + (f * 7 + j')) ∧ H (84 + (f * 7 + k)) = H (84 + (f * 7 + j'))))) k (fun j s hj hJ => by
        obtain ⟨rfl, hJ⟩ := hJ
        by_cases hjk : j = k
        · subst hjk
          refine .inr ⟨.inr (), ?_, .inr ⟨rfl, hJ⟩⟩
          simp (disch := omega) only [fX12_areTogether_b10, Nat.reduceLeDiff, Nat.reduceLT, Nat.reduceAdd, Nat.reduceMul, Nat.reduceSub, Nat.reduceEqDiff, Nat.le_refl, Nat.lt_irrefl, Nat.zero_add, Nat.add_zero, yp_LT, yp_nA, yp_nM, yp_leN, yp_ltN, yp_eqN, lt1, yp_sb, yp_sb2, if_false, if_true]
        · have q1 := hM (42 + (f * 7 + k)) (by omega)
          have q2 := hM (42 + (f * 7 + j)) (by omega)
          have q3 := hM (84 + (f * 7 + k)) (by omega)
          have q4 := hM (84 + (f * 7 + j)) (by omega)
          by_cases hc : yp_N 0 < H (42 + (f * 7 + k)) ∧ yp_N 0 < H (42 + (f * 7 + j)) ∧ H (84 + (f * 7 + k)) = H (84 + (f * 7 + j))
          · refine .inr ⟨.inl (), ?_, .inl ⟨rfl, k, j, by omega, by omega, hc⟩⟩
            have e1 : (H (42 + (f * 7 + k)) ≤ yp_N 0) = False := by simp only [eq_iff_iff, iff_false, Int32.not_le]; exact hc.1
            have e2 : (H (42 + (f * 7 + j)) ≤ yp_N 0) = False := by simp only [eq_iff_iff, iff_false, Int32.not_le]; exact hc.2.1
            have e3 : (H (84 + (f * 7 + k)) = H (84 + (f * 7 + j))) = True := by simp only [eq_iff_iff, iff_true]; exact hc.2.2
            simp (disch := omega) only [fX12_areTogether_b10, hA, yp_m_in, q1, q2, q3, q4, (show (k ≤ j) = False by simp only [eq_iff_iff, iff_false]; omega), e1, e2, e3, Nat.reduceLeDiff, Nat.reduceLT, Nat.reduceAdd, Nat.reduceMul, Nat.reduceSub, Nat.reduceEqDiff, Nat.le_refl, Nat.lt_irrefl, Nat.zero_add, Nat.add_zero, yp_LT, yp_nA, yp_nM, yp_leN, yp_ltN, yp_eqN, lt1, yp_sb, yp_sb2, if_false, if_true]
          · refine .inl ⟨by omega, yp_N (j + 1), ?_, rfl, fun j' hj' => ?_⟩
            · simp (disch := omega) only [fX12_areTogether_b10, fX12_areTogether_j74, hA, yp_m_in, q1, q2, q3, q4, (show (k ≤ j) = False by simp only [eq_iff_iff, iff_false]; omega), Nat.reduceLeDiff, Nat.reduceLT, Nat.reduceAdd, Nat.reduceMul, Nat.reduceSub, Nat.reduceEqDiff, Nat.le_refl, Nat.lt_irrefl, Nat.zero_add, Nat.add_zero, yp_LT, yp_nA, yp_nM, yp_leN, yp_ltN, yp_eqN, lt1, yp_sb, yp_sb2, if_false, if_true]
              split
              · rfl
              · split
                · rfl
                · rename_i g1 g2
                  rw [if_neg (fun e => hc ⟨Int32.not_le.mp g1, Int32.not_le.mp g2, e⟩)]
            · by_cases e : j' = j
              · subst e; exact hc
              · exact hJ j' (by omega)) (show k < FU by rw [yp_FUe]; omega) (s0 := yp_N 0) ⟨rfl, fun j' hj' => by omega⟩
      have h3 : (7 ≤ k) = False := by simp only [eq_iff_iff, iff_false]; omega
      rcases h2 with ⟨rfl, h2⟩ | ⟨rfl, h2⟩
      · refine .inr ⟨.inl (), ?_, .inl ⟨rfl, h2⟩⟩
        simp (disch := omega) only [fX12_areTogether_b2, h3, Nat.reduceLeDiff, Nat.reduceLT, Nat.reduceAdd, Nat.reduceMul, Nat.reduceSub, Nat.reduceEqDiff, Nat.le_refl, Nat.lt_irrefl, Nat.zero_add, Nat.add_zero, yp_LT, yp_nA, yp_nM, yp_leN, yp_ltN, yp_eqN, lt1, yp_sb, yp_sb2, if_false, if_true]
        rw [h1]
        rfl
      · refine .inl ⟨by omega, yp_N (k + 1), ?_, rfl, fun k' j h4 h5 => ?_⟩
        · simp (disch := omega) only [fX12_areTogether_b2, h3, Nat.reduceLeDiff, Nat.reduceLT, Nat.reduceAdd, Nat.reduceMul, Nat.reduceSub, Nat.reduceEqDiff, Nat.le_refl, Nat.lt_irrefl, Nat.zero_add, Nat.add_zero, yp_LT, yp_nA, yp_nM, yp_leN, yp_ltN, yp_eqN, lt1, yp_sb, yp_sb2, if_false, if_true]
          rw [h1]
          simp only [yp_sb, Sum.elim, fX12_areTogether_j80, lt1, yp_LT, yp_nA]
        · by_cases e : k' = k
          · subst e; exact h2 j h5
          · exact hI k' j (by omega) h5) (show 7 < FU by rw [yp_FUe]; omega) (s0 := yp_N 0) ⟨rfl, fun k' j h => by omega⟩
  rw [h1]
  rcases h2 with ⟨rfl, h2⟩ | ⟨rfl, h2⟩
  · exact ⟨yp_N 1, rfl, .inl ⟨rfl, h2⟩⟩
  · exact ⟨yp_N 0, rfl, .inr ⟨rfl, h2⟩⟩
end REF

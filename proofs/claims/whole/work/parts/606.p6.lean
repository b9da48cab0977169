section REF2
variable {B : Nat} {mm : Mem} {H : Nat → Int32} {nf : Nat}
set_option maxHeartbeats 1000000 in
theorem yp_HM.up {n : Nat} (h : yp_HM mm n H) (k : Nat) (v : Int32) : yp_HM (up2 mm n k v) n (yp_up1 H k v) := by
  intro j hj
  simp only [up2, yp_up1, true_and]
  by_cases e : j = k
  · simp [e]
  · simp [e, h j hj]
set_option maxHeartbeats 1000000 in
theorem yp_HM.cong {n : Nat} (h : yp_HM mm n H) {H' : Nat → Int32} (h2 : ∀ k, k < 175 → H k = H' k) : yp_HM mm n H' := fun k hk => (h k hk).trans (h2 k hk)
set_option maxHeartbeats 1000000 in
theorem yp_HM.same {n : Nat} (h : yp_HM mm n H) {mm' : Mem} (h2 : ∀ j, mm' n j = mm n j) : yp_HM mm' n H := fun k hk => (h2 k).trans (h k hk)
def yp_FS (B : Nat) : Nat → Nat → Prop := fun a _ => a = B + 533
set_option maxHeartbeats 1000000 in
theorem yp_c_copies {sh : Shp} {x0 a b n0 n1 : Nat} (mm : Mem) (ha : sh a = some (.inl n0)) (hb : sh b = some (.inl n1)) (n : Nat) (h0 : n ≤ n0) (h1 : n ≤ n1) (hab : a ≠ b) (hn : n < 8000) : fX12_copies sh x0 a b (yp_N n) mm = some (fun c j => if c = b ∧ j < n then mm a j else mm c j) := by
  simp (disch := omega) only [fX12_copies, fX12_copies_j23, Nat.reduceLeDiff, Nat.reduceLT, Nat.reduceAdd, Nat.reduceMul, Nat.reduceSub, Nat.reduceEqDiff, Nat.le_refl, Nat.lt_irrefl, Nat.zero_add, Nat.add_zero, yp_LT, yp_nA, yp_nM, yp_leN, yp_ltN, yp_eqN, lt1, yp_sb, yp_sb2, if_false, if_true]
  have key : ∀ m, m ≤ n → yp_fo (fun k (m : Mem) => up2 m b k (m a k)) m mm = (fun c j => if c = b ∧ j < m then mm a j else mm c j) := by
    intro m
    induction m with
    | zero => intro _; funext c j; unfold yp_fo; simp
    | succ m ih =>
      intro hm
      unfold yp_fo
      rw [ih (by omega)]
      funext c j
      unfold up2
      by_cases e : c = b
      · by_cases e2 : j = m
        · simp [e, e2, hab]
        · simp only [e, e2, and_false, if_false, true_and]
          by_cases e3 : j < m
          · rw [if_pos e3, if_pos (by omega)]
          · rw [if_neg e3, if_neg (by omega)]
      · simp [e]
  refine Eq.trans (yp_lpB (fun k (m : Mem) => (yp_N k, m)) (fun k (m : Mem) => up2 m b k (m a k)) id n mm (by rw [yp_FUe]; omega) rfl (fun k z hk hz => ?_) (fun z hz => ?_)) ?_
  · simp (disch := omega) only [fX12_copies_b3, yp_aLN ha, yp_aSN hb, (show (n ≤ k) = False by simp only [eq_iff_iff, iff_false]; omega), Nat.reduceLeDiff, Nat.reduceLT, Nat.reduceAdd, Nat.reduceMul, Nat.reduceSub, Nat.reduceEqDiff, Nat.le_refl, Nat.lt_irrefl, Nat.zero_add, Nat.add_zero, yp_LT, yp_nA, yp_nM, yp_leN, yp_ltN, yp_eqN, lt1, yp_sb, yp_sb2, if_false, if_true]
  · simp (disch := omega) only [fX12_copies_b3, Nat.reduceLeDiff, Nat.reduceLT, Nat.reduceAdd, Nat.reduceMul, Nat.reduceSub, Nat.reduceEqDiff, Nat.le_refl, Nat.lt_irrefl, Nat.zero_add, Nat.add_zero, yp_LT, yp_nA, yp_nM, yp_leN, yp_ltN, yp_eqN, lt1, yp_sb, yp_sb2, if_false, if_true]
    rfl
  · exact congrArg some (key n (Nat.le_refl n))
set_option maxHeartbeats 1000000 in
theorem yp_m_take (hM : yp_HM mm (B + 532) H) : ∃ mm', fX12_take (yp_SH B) (B + 517) mm = some mm' ∧ yp_HM mm' (B + 533) H ∧ yp_Fr (yp_FS B) mm mm' := by
  have hA := yp_mS B
  refine ⟨_, by simp (disch := omega) only [fX12_take, hA, yp_c_copies mm (yp_sa532 B) (yp_sa533 B) 175 (by omega) (by omega) (show B + 532 ≠ B + 533 by omega) (by omega), Nat.reduceLeDiff, Nat.reduceLT, Nat.reduceAdd, Nat.reduceMul, Nat.reduceSub, Nat.reduceEqDiff, Nat.le_refl, Nat.lt_irrefl, Nat.zero_add, Nat.add_zero, yp_LT, yp_nA, yp_nM, yp_leN, yp_ltN, yp_eqN, lt1, yp_sb, yp_sb2, if_false, if_true]; rfl, fun k hk => ?_, fun a j h => ?_⟩
  · simp only [hk, and_self, if_true]
    exact hM k hk
  · unfold yp_FS at h
    simp only [h, false_and, if_false]
set_option maxHeartbeats 1000000 in
theorem yp_m_day (hM : yp_HM mm (B + 533) H) : ∃ mm', fX12_passes (yp_SH B) (B + 517) mm = some mm' ∧ yp_HM mm' (B + 533) (yp_dayH H) ∧ yp_Fr (yp_FS B) mm mm' := by
  have hA := yp_mS B
  simp (disch := omega) only [fX12_passes, Nat.reduceLeDiff, Nat.reduceLT, Nat.reduceAdd, Nat.reduceMul, Nat.reduceSub, Nat.reduceEqDiff, Nat.le_refl, Nat.lt_irrefl, Nat.zero_add, Nat.add_zero, yp_LT, yp_nA, yp_nM, yp_leN, yp_ltN, yp_eqN, lt1, yp_sb, yp_sb2, if_false, if_true]
  obtain ⟨m1, h1, h2, h3⟩ := yp_lpI (step := fun st : Int32 × Mem => fX12_passes_b3 (yp_SH B) (B + 517) st.1 st.2) (fun k st => ∃ m, st = (yp_N (42 + k), m) ∧ yp_HM m (B + 533) (fun j => if 42 ≤ j ∧ j < 42 + k then (if H j ≤ yp_N 0 then H j else H j - yp_N 1) else H j) ∧ yp_Fr (yp_FS B) mm m) (fun m => yp_HM m (B + 533) (fun j => if 42 ≤ j ∧ j < 84 then (if H j ≤ yp_N 0 then H j else H j - yp_N 1) else H j) ∧ yp_Fr (yp_FS B) mm m) 42 (fun k st hk hI => by
    obtain ⟨m, rfl, hC, hF⟩ := hI
    by_cases hk4 : k = 42
    · subst hk4
      exact .inr ⟨m, by simp (disch := omega) only [fX12_passes_b3, Nat.reduceLeDiff, Nat.reduceLT, Nat.reduceAdd, Nat.reduceMul, Nat.reduceSub, Nat.reduceEqDiff, Nat.le_refl, Nat.lt_irrefl, Nat.zero_add, Nat.add_zero, yp_LT, yp_nA, yp_nM, yp_leN, yp_ltN, yp_eqN, lt1, yp_sb, yp_sb2, if_false, if_true], hC, hF⟩
    · refine .inl ⟨by omega, ?_⟩
      have e1 := hC (42 + k) (by omega)
      simp only [show ¬ (42 ≤ 42 + k ∧ 42 + k < 42 + k) by omega, if_false] at e1
      by_cases hc : H (42 + k) ≤ yp_N 0
      · refine ⟨(yp_N (42 + (k + 1)), up2 m (B + 533) (42 + k) (H (42 + k) - yp_N 0)), ?_, _, rfl, (hC.up _ _).cong (fun j hj => ?_), hF.up rfl⟩
        · simp (disch := omega) only [fX12_passes_b3, fX12_passes_j30, hA, e1, (show (84 ≤ 42 + k) = False by simp only [eq_iff_iff, iff_false]; omega), hc, Nat.reduceLeDiff, Nat.reduceLT, Nat.reduceAdd, Nat.reduceMul, Nat.reduceSub, Nat.reduceEqDiff, Nat.le_refl, Nat.lt_irrefl, Nat.zero_add, Nat.add_zero, yp_LT, yp_nA, yp_nM, yp_leN, yp_ltN, yp_eqN, lt1, yp_sb, yp_sb2, if_false, if_true]
          rfl
        · unfold yp_up1
          by_cases e : j = 42 + k
          · subst e
            rw [if_pos rfl, if_pos (by omega), if_pos hc]
            exact Int32.sub_zero _
          · have : (42 ≤ j ∧ j < 42 + k) ↔ (42 ≤ j ∧ j < 42 + (k + 1)) := by omega
            simp only [this, e, if_false]
      · refine ⟨(yp_N (42 + (k + 1)), up2 m (B + 533) (42 + k) (H (42 + k) - yp_N 1)), ?_, _, rfl, (hC.up _ _).cong (fun j hj => ?_), hF.up rfl⟩
        · simp (disch := omega) only [fX12_passes_b3, fX12_passes_j30, hA, e1, (show (84 ≤ 42 + k) = False by simp only [eq_iff_iff, iff_false]; omega), hc, Nat.reduceLeDiff, Nat.reduceLT, Nat.reduceAdd, Nat.reduceMul, Nat.reduceSub, Nat.reduceEqDiff, Nat.le_refl, Nat.lt_irrefl, Nat.zero_add, Nat.add_zero, yp_LT, yp_nA, yp_nM, yp_leN, yp_ltN, yp_eqN, lt1, yp_sb, yp_sb2, if_false, if_true]
          rfl
        · unfold yp_up1
          by_cases e : j = 42 + k
          · subst e
            rw [if_pos rfl, if_pos (by omega), if_neg hc]
          · have : (42 ≤ j ∧ j < 42 + k) ↔ (42 ≤ j ∧ j < 42 + (k + 1)) := by omega
            simp only [this, e, if_false]) (show 42 < FU by rw [yp_FUe]; omega) (s0 := (yp_N 42, mm)) ⟨mm, rfl, hM.cong (fun j hj => by rw [if_neg (by omega)]), yp_Fr.rf⟩
  rw [h1]
  refine ⟨_, by simp (disch := omega) only [fX12_passes_j38, hA, Nat.reduceLeDiff, Nat.reduceLT, Nat.reduceAdd, Nat.reduceMul, Nat.reduceSub, Nat.reduceEqDiff, Nat.le_refl, Nat.lt_irrefl, Nat.zero_add, Nat.add_zero, yp_LT, yp_nA, yp_nM, yp_leN, yp_ltN, yp_eqN, lt1, yp_sb, yp_sb2, if_false, if_true]; rfl, (h2.up _ _).cong (fun j hj => ?_), h3.up rfl⟩
  have e2 := h2 174 (by omega)
  simp only [show ¬ (42 ≤ 174 ∧ 174 < 84) by omega, if_false] at e2
  unfold yp_up1 yp_dayH
  by_cases e : j = 174
  · subst e
    simp only [show ¬ (42 ≤ 174 ∧ 174 < 84) by omega, if_false, if_true, e2]
  · simp only [e, if_false]
set_option maxHeartbeats 1000000 in
theorem yp_m_moved (hM : yp_HM mm (B + 533) H) (i j : Nat) (n : Int32) (hi : i < 175) (hj : j < 175) (hij : i ≠ j) : (¬ n ≤ H i ∧ fX12_isMoved (yp_SH B) (B + 517) (yp_N i) (yp_N j) n mm = some (yp_N 0, mm)) ∨ (n ≤ H i ∧ ∃ mm', fX12_isMoved (yp_SH B) (B + 517) (yp_N i) (yp_N j) n mm = some (yp_N 1, mm') ∧ yp_HM mm' (B + 533) (yp_mov H i j n) ∧ yp_Fr (yp_FS B) mm mm') := by
  have hA := yp_mS B
  have e1 := hM i hi
  have e2 := hM j hj
  by_cases h : n ≤ H i
  · refine .inr ⟨h, _, by simp (disch := omega) only [fX12_isMoved, hA, e1, h, Nat.reduceLeDiff, Nat.reduceLT, Nat.reduceAdd, Nat.reduceMul, Nat.reduceSub, Nat.reduceEqDiff, Nat.le_refl, Nat.lt_irrefl, Nat.zero_add, Nat.add_zero, yp_LT, yp_nA, yp_nM, yp_leN, yp_ltN, yp_eqN, lt1, yp_sb, yp_sb2, if_false, if_true]; rfl, ?_, ?_⟩
    · have h2 := (hM.up i (H i - n)).up j (H j + n)
      rw [yp_up2_n _ _ (fun _ e => hij e.symm), e2]
      exact h2
    · exact yp_Fr.up (T := yp_FS B) (yp_Fr.up (T := yp_FS B) yp_Fr.rf rfl) rfl
  · exact .inl ⟨h, by simp (disch := omega) only [fX12_isMoved, hA, e1, h, Nat.reduceLeDiff, Nat.reduceLT, Nat.reduceAdd, Nat.reduceMul, Nat.reduceSub, Nat.reduceEqDiff, Nat.le_refl, Nat.lt_irrefl, Nat.zero_add, Nat.add_zero, yp_LT, yp_nA, yp_nM, yp_leN, yp_ltN, yp_eqN, lt1, yp_sb, yp_sb2, if_false, if_true]⟩
set_option maxHeartbeats 1000000 in
theorem yp_m_swap (hM : yp_HM mm (B + 533) H) (f o c : Nat) (hf : f < 6) (ho : o < 6) (hc : c < 7) : (H (f * 7 + c) = H (o * 7 + c) ∧ fX12_isSwapped (yp_SH B) (B + 517) (yp_N f) (yp_N o) (yp_N c) mm = some (yp_N 0, mm)) ∨ (¬ H (f * 7 + c) = H (o * 7 + c) ∧ ∃ mm', fX12_isSwapped (yp_SH B) (B + 517) (yp_N f) (yp_N o) (yp_N c) mm = some (yp_N 1, mm') ∧ yp_HM mm' (B + 533) (yp_swp H (f * 7 + c) (o * 7 + c)) ∧ yp_Fr (yp_FS B) mm mm') := by
  have hA := yp_mS B
  have e1 := hM (f * 7 + c) (by omega)
  have e2 := hM (o * 7 + c) (by omega)
  by_cases hfo : f = o
  · subst hfo
    exact .inl ⟨rfl, by simp (disch := omega) only [fX12_isSwapped, fX12_isSwapped_j34, hA, yp_m_in, e1, Nat.reduceLeDiff, Nat.reduceLT, Nat.reduceAdd, Nat.reduceMul, Nat.reduceSub, Nat.reduceEqDiff, Nat.le_refl, Nat.lt_irrefl, Nat.zero_add, Nat.add_zero, yp_LT, yp_nA, yp_nM, yp_leN, yp_ltN, yp_eqN, lt1, yp_sb, yp_sb2, if_false, if_true]⟩
  · by_cases h : H (f * 7 + c) = H (o * 7 + c)
    · exact .inl ⟨h, by simp (disch := omega) only [fX12_isSwapped, fX12_isSwapped_j34, hA, yp_m_in, e1, e2, h, (show (f = o) = False by simp only [eq_iff_iff, iff_false]; omega), Nat.reduceLeDiff, Nat.reduceLT, Nat.reduceAdd, Nat.reduceMul, Nat.reduceSub, Nat.reduceEqDiff, Nat.le_refl, Nat.lt_irrefl, Nat.zero_add, Nat.add_zero, yp_LT, yp_nA, yp_nM, yp_leN, yp_ltN, yp_eqN, lt1, yp_sb, yp_sb2, if_false, if_true]⟩
    · refine .inr ⟨h, _, by simp (disch := omega) only [fX12_isSwapped, fX12_isSwapped_j34, hA, yp_m_in, e1, e2, h, (show (f = o) = False by simp only [eq_iff_iff, iff_false]; omega), Nat.reduceLeDiff, Nat.reduceLT, Nat.reduceAdd, Nat.reduceMul, Nat.reduceSub, Nat.reduceEqDiff, Nat.le_refl, Nat.lt_irrefl, Nat.zero_add, Nat.add_zero, yp_LT, yp_nA, yp_nM, yp_leN, yp_ltN, yp_eqN, lt1, yp_sb, yp_sb2, if_false, if_true]; rfl, ?_, ?_⟩
      · exact (hM.up (f * 7 + c) (H (o * 7 + c))).up (o * 7 + c) (H (f * 7 + c))
      · exact yp_Fr.up (T := yp_FS B) (yp_Fr.up (T := yp_FS B) yp_Fr.rf rfl) rfl
end REF2

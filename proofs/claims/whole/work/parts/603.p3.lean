section HALL2
variable {sh : Shp} {x : Nat} {mm : Mem} {H : Nat → Int32}
set_option maxHeartbeats 1000000 in
theorem yp_HC.w (h : yp_HC mm x H) {k : Nat} (hk : k < 42) (v : Int32) : yp_HC (up2 mm (x + 1) k v) x (yp_up1 H k v) := by
  obtain ⟨h1, h2, h3, h4, h5, h6⟩ := h
  refine ⟨fun j hj => ?_, fun j hj => ?_, fun j hj => ?_, fun j hj => ?_, fun j hj => ?_, ?_⟩ <;> simp only [up2, yp_up1]
  · by_cases e : j = k
    · simp [e]
    · simp [e, h1 j hj]
  · rw [if_neg (by omega), if_neg (by omega), h2 j hj]
  · rw [if_neg (by omega), if_neg (by omega), h3 j hj]
  · rw [if_neg (by omega), if_neg (by omega), h4 j hj]
  · rw [if_neg (by omega), if_neg (by omega), h5 j hj]
  · rw [if_neg (by omega), if_neg (by omega), h6]
set_option maxHeartbeats 1000000 in
theorem yp_HC.l (h : yp_HC mm x H) {k : Nat} (hk : k < 42) (v : Int32) : yp_HC (up2 mm (x + 2) k v) x (yp_up1 H (42 + k) v) := by
  obtain ⟨h1, h2, h3, h4, h5, h6⟩ := h
  refine ⟨fun j hj => ?_, fun j hj => ?_, fun j hj => ?_, fun j hj => ?_, fun j hj => ?_, ?_⟩ <;> simp only [up2, yp_up1]
  · rw [if_neg (by omega), if_neg (by omega), h1 j hj]
  · by_cases e : j = k
    · simp [e]
    · rw [if_neg (by omega), if_neg (by omega), h2 j hj]
  · rw [if_neg (by omega), if_neg (by omega), h3 j hj]
  · rw [if_neg (by omega), if_neg (by omega), h4 j hj]
  · rw [if_neg (by omega), if_neg (by omega), h5 j hj]
  · rw [if_neg (by omega), if_neg (by omega), h6]
set_option maxHeartbeats 1000000 in
theorem yp_HC.a (h : yp_HC mm x H) {k : Nat} (hk : k < 42) (v : Int32) : yp_HC (up2 mm (x + 3) k v) x (yp_up1 H (84 + k) v) := by
  obtain ⟨h1, h2, h3, h4, h5, h6⟩ := h
  refine ⟨fun j hj => ?_, fun j hj => ?_, fun j hj => ?_, fun j hj => ?_, fun j hj => ?_, ?_⟩ <;> simp only [up2, yp_up1]
  · rw [if_neg (by omega), if_neg (by omega), h1 j hj]
  · rw [if_neg (by omega), if_neg (by omega), h2 j hj]
  · by_cases e : j = k
    · simp [e]
    · rw [if_neg (by omega), if_neg (by omega), h3 j hj]
  · rw [if_neg (by omega), if_neg (by omega), h4 j hj]
  · rw [if_neg (by omega), if_neg (by omega), h5 j hj]
  · rw [if_neg (by omega), if_neg (by omega), h6]
set_option maxHeartbeats 1000000 in
theorem yp_HC.t (h : yp_HC mm x H) {k : Nat} (hk : k < 42) (v : Int32) : yp_HC (up2 mm (x + 4) k v) x (yp_up1 H (126 + k) v) := by
  obtain ⟨h1, h2, h3, h4, h5, h6⟩ := h
  refine ⟨fun j hj => ?_, fun j hj => ?_, fun j hj => ?_, fun j hj => ?_, fun j hj => ?_, ?_⟩ <;> simp only [up2, yp_up1]
  · rw [if_neg (by omega), if_neg (by omega), h1 j hj]
  · rw [if_neg (by omega), if_neg (by omega), h2 j hj]
  · rw [if_neg (by omega), if_neg (by omega), h3 j hj]
  · by_cases e : j = k
    · simp [e]
    · rw [if_neg (by omega), if_neg (by omega), h4 j hj]
  · rw [if_neg (by omega), if_neg (by omega), h5 j hj]
  · rw [if_neg (by omega), if_neg (by omega), h6]
set_option maxHeartbeats 1000000 in
theorem yp_HC.u (h : yp_HC mm x H) {k : Nat} (hk : k < 6) (v : Int32) : yp_HC (up2 mm (x + 5) k v) x (yp_up1 H (168 + k) v) := by
  obtain ⟨h1, h2, h3, h4, h5, h6⟩ := h
  refine ⟨fun j hj => ?_, fun j hj => ?_, fun j hj => ?_, fun j hj => ?_, fun j hj => ?_, ?_⟩ <;> simp only [up2, yp_up1]
  · rw [if_neg (by omega), if_neg (by omega), h1 j hj]
  · rw [if_neg (by omega), if_neg (by omega), h2 j hj]
  · rw [if_neg (by omega), if_neg (by omega), h3 j hj]
  · rw [if_neg (by omega), if_neg (by omega), h4 j hj]
  · by_cases e : j = k
    · simp [e]
    · rw [if_neg (by omega), if_neg (by omega), h5 j hj]
  · rw [if_neg (by omega), if_neg (by omega), h6]
set_option maxHeartbeats 1000000 in
theorem yp_HC.d (h : yp_HC mm x H) (v : Int32) : yp_HC (up2 mm x 5 v) x (yp_up1 H 174 v) := by
  obtain ⟨h1, h2, h3, h4, h5, h6⟩ := h
  refine ⟨fun j hj => ?_, fun j hj => ?_, fun j hj => ?_, fun j hj => ?_, fun j hj => ?_, ?_⟩ <;> simp only [up2, yp_up1]
  · rw [if_neg (by omega), if_neg (by omega), h1 j hj]
  · rw [if_neg (by omega), if_neg (by omega), h2 j hj]
  · rw [if_neg (by omega), if_neg (by omega), h3 j hj]
  · rw [if_neg (by omega), if_neg (by omega), h4 j hj]
  · rw [if_neg (by omega), if_neg (by omega), h5 j hj]
  · simp
set_option maxHeartbeats 1000000 in
theorem yp_HC.same (h : yp_HC mm x H) {mm' : Mem} (h2 : ∀ a j, x ≤ a → a ≤ x + 5 → mm' a j = mm a j) : yp_HC mm' x H := by
  obtain ⟨h1, h2', h3, h4, h5, h6⟩ := h
  exact ⟨fun k hk => (h2 _ _ (by omega) (by omega)).trans (h1 k hk), fun k hk => (h2 _ _ (by omega) (by omega)).trans (h2' k hk), fun k hk => (h2 _ _ (by omega) (by omega)).trans (h3 k hk), fun k hk => (h2 _ _ (by omega) (by omega)).trans (h4 k hk), fun k hk => (h2 _ _ (by omega) (by omega)).trans (h5 k hk), (h2 _ _ (by omega) (by omega)).trans h6⟩
set_option maxHeartbeats 1000000 in
theorem yp_HC.cong (h : yp_HC mm x H) {H' : Nat → Int32} (h2 : ∀ k, k < 175 → H k = H' k) : yp_HC mm x H' := by
  obtain ⟨h1, h2', h3, h4, h5, h6⟩ := h
  exact ⟨fun k hk => (h1 k hk).trans (h2 _ (by omega)), fun k hk => (h2' k hk).trans (h2 _ (by omega)), fun k hk => (h3 k hk).trans (h2 _ (by omega)), fun k hk => (h4 k hk).trans (h2 _ (by omega)), fun k hk => (h5 k hk).trans (h2 _ (by omega)), h6.trans (h2 _ (by omega))⟩
set_option maxHeartbeats 1000000 in
theorem yp_h_copy {y : Nat} (hS : yp_HS sh x) (hT : yp_HS sh y) (hH : yp_HC mm y H) (hd : x + 5 < y ∨ y + 5 < x) : ∃ mm', fX2_copyFrom sh x y mm = some mm' ∧ yp_HC mm' x H ∧ yp_Fr (yp_IH x) mm mm' := by
  have hA := yp_HSx hS
  have hB := yp_HSx hT
  obtain ⟨_, a1, a2, a3, a4, a5⟩ := hS
  obtain ⟨_, yp_b1, b2, b3, b4, b5⟩ := hT
  obtain ⟨h1, h2, h3, h4, h5, h6⟩ := hH
  refine ⟨_, by simp (disch := omega) only [fX2_copyFrom, hA, hB, yp_aCN yp_b1 a1, yp_aCN b2 a2, yp_aCN b3 a3, yp_aCN b4 a4, yp_aCN b5 a5, Nat.reduceLeDiff, Nat.reduceLT, Nat.reduceAdd, Nat.reduceMul, Nat.reduceSub, Nat.reduceEqDiff, Nat.le_refl, Nat.lt_irrefl, Nat.zero_add, Nat.add_zero, yp_LT, yp_nA, yp_nM, yp_leN, yp_ltN, yp_eqN, lt1, yp_sb, yp_sb2, if_false, if_true]; rfl, ?_, ?_⟩
  · refine ⟨fun k hk => ?_, fun k hk => ?_, fun k hk => ?_, fun k hk => ?_, fun k hk => ?_, ?_⟩
    · rw [← h1 k hk]; unfold up2 cpy2; simp <;> first | (intro hh; omega) | (repeat (first | rw [if_neg (by omega)] | rw [if_pos (by omega)]))
    · rw [← h2 k hk]; unfold up2 cpy2; simp <;> first | (intro hh; omega) | (repeat (first | rw [if_neg (by omega)] | rw [if_pos (by omega)]))
    · rw [← h3 k hk]; unfold up2 cpy2; simp <;> first | (intro hh; omega) | (repeat (first | rw [if_neg (by omega)] | rw [if_pos (by omega)]))
    · rw [← h4 k hk]; unfold up2 cpy2; simp <;> first | (intro hh; omega) | (repeat (first | rw [if_neg (by omega)] | rw [if_pos (by omega)]))
    · rw [← h5 k hk]; unfold up2 cpy2; simp <;> first | (intro hh; omega) | (repeat (first | rw [if_neg (by omega)] | rw [if_pos (by omega)]))
    · rw [← h6]; unfold up2 cpy2; simp <;> first | (intro hh; omega) | (repeat (first | rw [if_neg (by omega)] | rw [if_pos (by omega)]))
  · refine yp_Fr.up ?_ ⟨by omega, by omega⟩
    refine yp_Fr.cp ?_ (fun _ => ⟨by omega, by omega⟩)
    refine yp_Fr.cp ?_ (fun _ => ⟨by omega, by omega⟩)
    refine yp_Fr.cp ?_ (fun _ => ⟨by omega, by omega⟩)
    refine yp_Fr.cp ?_ (fun _ => ⟨by omega, by omega⟩)
    refine yp_Fr.cp ?_ (fun _ => ⟨by omega, by omega⟩)
    exact yp_Fr.rf
set_option maxHeartbeats 1000000 in
theorem yp_c_fill {a n : Nat} (v : Int32) (mm : Mem) (hs : sh a = some (.inl n)) (hn : n < 8000) : fJ7_fill_53178 sh a v mm = some (fun b j => if b = a ∧ j < n then v else mm b j) := by
  have hN : aN sh a = some (yp_N n) := by simp only [aN, hs]; rfl
  simp (disch := omega) only [fJ7_fill_53178, fJ7_fill_53178_j20, hN, Nat.reduceLeDiff, Nat.reduceLT, Nat.reduceAdd, Nat.reduceMul, Nat.reduceSub, Nat.reduceEqDiff, Nat.le_refl, Nat.lt_irrefl, Nat.zero_add, Nat.add_zero, yp_LT, yp_nA, yp_nM, yp_leN, yp_ltN, yp_eqN, lt1, yp_sb, yp_sb2, if_false, if_true]
  refine Eq.trans (yp_lpB (fun k (m : Mem) => (yp_N k, m)) (fun k (m : Mem) => up2 m a k v) id n mm (by rw [yp_FUe]; omega) rfl (fun k z hk hz => ?_) (fun z hz => ?_)) ?_
  · simp (disch := omega) only [fJ7_fill_53178_b5, yp_aSN hs, (show (n ≤ k) = False by simp only [eq_iff_iff, iff_false]; omega), Nat.reduceLeDiff, Nat.reduceLT, Nat.reduceAdd, Nat.reduceMul, Nat.reduceSub, Nat.reduceEqDiff, Nat.le_refl, Nat.lt_irrefl, Nat.zero_add, Nat.add_zero, yp_LT, yp_nA, yp_nM, yp_leN, yp_ltN, yp_eqN, lt1, yp_sb, yp_sb2, if_false, if_true]
  · simp (disch := omega) only [fJ7_fill_53178_b5, (show (n ≤ n) = True by simp only [eq_iff_iff, iff_true]; omega), Nat.reduceLeDiff, Nat.reduceLT, Nat.reduceAdd, Nat.reduceMul, Nat.reduceSub, Nat.reduceEqDiff, Nat.le_refl, Nat.lt_irrefl, Nat.zero_add, Nat.add_zero, yp_LT, yp_nA, yp_nM, yp_leN, yp_ltN, yp_eqN, lt1, yp_sb, yp_sb2, if_false, if_true]
    rfl
  · refine congrArg some ?_
    have key : ∀ m, m ≤ n → yp_fo (fun k (m : Mem) => up2 m a k v) m mm = (fun b j => if b = a ∧ j < m then v else mm b j) := by
      intro m
      induction m with
      | zero => intro _; funext b j; unfold yp_fo; simp
      | succ m ih =>
        intro hm
        unfold yp_fo
        rw [ih (by omega)]
        funext b j
        unfold up2
        by_cases e : b = a
        · by_cases e2 : j = m
          · simp [e, e2]
          · simp only [e, e2, and_false, if_false, true_and]
            by_cases e3 : j < m
            · rw [if_pos e3, if_pos (by omega)]
            · rw [if_neg e3, if_neg (by omega)]
        · simp [e]
    exact key n (Nat.le_refl n)
def yp_openH (M : Nat → Int32) : Nat → Int32 := fun k => if k < 42 then M k else yp_N 0
set_option maxHeartbeats 1000000 in
theorem yp_h_open {y w : Nat} {M : Nat → Int32} (hS : yp_HS sh x) (h0 : rR sh 1 y 0 = some w) (hw : sh w = some (.inl 42)) (hM : ∀ k, k < 42 → mm w k = M k) (hd : w < x ∨ x + 5 < w) : ∃ mm', fX2_open sh x y mm = some mm' ∧ yp_HC mm' x (yp_openH M) ∧ yp_Fr (yp_IH x) mm mm' := by
  have hA := yp_HSx hS
  obtain ⟨_, a1, a2, a3, a4, a5⟩ := hS
  refine ⟨_, by simp (disch := omega) only [fX2_open, hA, h0, yp_aCN hw a1, yp_c_fill _ _ a2, yp_c_fill _ _ a3, yp_c_fill _ _ a4, yp_c_fill _ _ a5, Nat.reduceLeDiff, Nat.reduceLT, Nat.reduceAdd, Nat.reduceMul, Nat.reduceSub, Nat.reduceEqDiff, Nat.le_refl, Nat.lt_irrefl, Nat.zero_add, Nat.add_zero, yp_LT, yp_nA, yp_nM, yp_leN, yp_ltN, yp_eqN, lt1, yp_sb, yp_sb2, if_false, if_true]; rfl, ?_, ?_⟩
  · refine ⟨fun k hk => ?_, fun k hk => ?_, fun k hk => ?_, fun k hk => ?_, fun k hk => ?_, ?_⟩
    · unfold yp_openH; rw [if_pos hk, ← hM k hk]; unfold up2 cpy2; simp <;> first | (intro hh; omega) | (repeat (first | rw [if_neg (by omega)] | rw [if_pos (by omega)]))
    · unfold yp_openH; rw [if_neg (by omega)]; unfold up2 cpy2; simp <;> first | (intro hh; omega) | (repeat (first | rw [if_neg (by omega)] | rw [if_pos (by omega)]))
    · unfold yp_openH; rw [if_neg (by omega)]; unfold up2 cpy2; simp <;> first | (intro hh; omega) | (repeat (first | rw [if_neg (by omega)] | rw [if_pos (by omega)]))
    · unfold yp_openH; rw [if_neg (by omega)]; unfold up2 cpy2; simp <;> first | (intro hh; omega) | (repeat (first | rw [if_neg (by omega)] | rw [if_pos (by omega)]))
    · unfold yp_openH; rw [if_neg (by omega)]; unfold up2 cpy2; simp <;> first | (intro hh; omega) | (repeat (first | rw [if_neg (by omega)] | rw [if_pos (by omega)]))
    · unfold yp_openH; rw [if_neg (by omega)]; unfold up2 cpy2; simp
  · intro b j hb
    unfold yp_IH at hb
    unfold up2 cpy2
    rw [if_neg (by omega)]
    dsimp only
    repeat rw [if_neg (by omega)]
def yp_dayH (H : Nat → Int32) : Nat → Int32 := fun k => if 42 ≤ k ∧ k < 84 then (if H k ≤ yp_N 0 then H k else H k - yp_N 1) else if k = 174 then H k + yp_N 1 else H k
set_option maxHeartbeats 1000000 in
theorem yp_h_day (hS : yp_HS sh x) (hH : yp_HC mm x H) : ∃ mm', fX2_passDay sh x mm = some mm' ∧ yp_HC mm' x (yp_dayH H) ∧ yp_Fr (yp_IH x) mm mm' := by
  have hA := yp_HSx hS
  simp (disch := omega) only [fX2_passDay, Nat.reduceLeDiff, Nat.reduceLT, Nat.reduceAdd, Nat.reduceMul, Nat.reduceSub, Nat.reduceEqDiff, Nat.le_refl, Nat.lt_irrefl, Nat.zero_add, Nat.add_zero, yp_LT, yp_nA, yp_nM, yp_leN, yp_ltN, yp_eqN, lt1, yp_sb, yp_sb2, if_false, if_true]
  obtain ⟨m1, h1, h2, h3⟩ := yp_lpI (step := fun st : Int32 × Mem => fX2_passDay_b2 sh x st.1 st.2) (fun k st => ∃ m, st = (yp_N k, m) ∧ yp_HC m x (fun j => if 42 ≤ j ∧ j < 42 + k then (if H j ≤ yp_N 0 then H j else H j - yp_N 1) else H j) ∧ yp_Fr (yp_IH x) mm m) (fun m => yp_HC m x (fun j => if 42 ≤ j ∧ j < 84 then (if H j ≤ yp_N 0 then H j else H j - yp_N 1) else H j) ∧ yp_Fr (yp_IH x) mm m) 42 (fun k st hk hI => by
    obtain ⟨m, rfl, hC, hF⟩ := hI
    by_cases hk4 : k = 42
    · subst hk4
      exact .inr ⟨m, by simp (disch := omega) only [fX2_passDay_b2, Nat.reduceLeDiff, Nat.reduceLT, Nat.reduceAdd, Nat.reduceMul, Nat.reduceSub, Nat.reduceEqDiff, Nat.le_refl, Nat.lt_irrefl, Nat.zero_add, Nat.add_zero, yp_LT, yp_nA, yp_nM, yp_leN, yp_ltN, yp_eqN, lt1, yp_sb, yp_sb2, if_false, if_true], hC, hF⟩
    · refine .inl ⟨by omega, ?_⟩
      have e1 := hC.2.1 k (by omega)
      simp only [show ¬ (42 ≤ 42 + k ∧ 42 + k < 42 + k) by omega, if_false] at e1
      by_cases hc : H (42 + k) ≤ yp_N 0
      · refine ⟨(yp_N (k + 1), m), ?_, m, rfl, hC.cong (fun j hj => ?_), hF⟩
        · simp (disch := omega) only [fX2_passDay_b2, fX2_passDay_j27, hA, e1, (show (42 ≤ k) = False by simp only [eq_iff_iff, iff_false]; omega), hc, Nat.reduceLeDiff, Nat.reduceLT, Nat.reduceAdd, Nat.reduceMul, Nat.reduceSub, Nat.reduceEqDiff, Nat.le_refl, Nat.lt_irrefl, Nat.zero_add, Nat.add_zero, yp_LT, yp_nA, yp_nM, yp_leN, yp_ltN, yp_eqN, lt1, yp_sb, yp_sb2, if_false, if_true]
        · by_cases e : j = 42 + k
          · subst e
            rw [if_neg (by omega), if_pos (by omega), if_pos hc]
          · have : (42 ≤ j ∧ j < 42 + k) ↔ (42 ≤ j ∧ j < 42 + (k + 1)) := by omega
            simp only [this]
      · refine ⟨(yp_N (k + 1), up2 m (x + 2) k (H (42 + k) - yp_N 1)), ?_, _, rfl, (hC.l (by omega) _).cong (fun j hj => ?_), hF.up ⟨by omega, by omega⟩⟩
        · simp (disch := omega) only [fX2_passDay_b2, fX2_passDay_j27, hA, e1, (show (42 ≤ k) = False by simp only [eq_iff_iff, iff_false]; omega), hc, Nat.reduceLeDiff, Nat.reduceLT, Nat.reduceAdd, Nat.reduceMul, Nat.reduceSub, Nat.reduceEqDiff, Nat.le_refl, Nat.lt_irrefl, Nat.zero_add, Nat.add_zero, yp_LT, yp_nA, yp_nM, yp_leN, yp_ltN, yp_eqN, lt1, yp_sb, yp_sb2, if_false, if_true]
        · unfold yp_up1
          by_cases e : j = 42 + k
          · subst e
            rw [if_pos rfl, if_pos (by omega), if_neg hc]
          · have : (42 ≤ j ∧ j < 42 + k) ↔ (42 ≤ j ∧ j < 42 + (k + 1)) := by omega
            simp only [this, e, if_false]) (show 42 < FU by rw [yp_FUe]; omega) (s0 := (yp_N 0, mm)) ⟨mm, rfl, hH.cong (fun j hj => by rw [if_neg (by omega)]), yp_Fr.rf⟩
  rw [h1]
  refine ⟨_, by simp (disch := omega) only [fX2_passDay_j33, hA, Nat.reduceLeDiff, Nat.reduceLT, Nat.reduceAdd, Nat.reduceMul, Nat.reduceSub, Nat.reduceEqDiff, Nat.le_refl, Nat.lt_irrefl, Nat.zero_add, Nat.add_zero, yp_LT, yp_nA, yp_nM, yp_leN, yp_ltN, yp_eqN, lt1, yp_sb, yp_sb2, if_false, if_true]; rfl, (h2.d _).cong (fun j hj => ?_), h3.up ⟨by omega, by omega⟩⟩
  have e2 := h2.2.2.2.2.2
  simp only [show ¬ (42 ≤ 174 ∧ 174 < 84) by omega, if_false] at e2
  unfold yp_up1 yp_dayH
  by_cases e : j = 174
  · subst e
    simp only [show ¬ (42 ≤ 174 ∧ 174 < 84) by omega, if_false, if_true, e2]
  · simp only [e, if_false]
def yp_mov (H : Nat → Int32) (i j : Nat) (n : Int32) : Nat → Int32 := yp_up1 (yp_up1 H i (H i - n)) j (H j + n)
set_option maxHeartbeats 1000000 in
theorem yp_h_take (hS : yp_HS sh x) (hH : yp_HC mm x H) (c : Nat) (n : Int32) (hc : c < 42) : (¬ n ≤ H c ∧ fX2_takeOut sh x (yp_N c) n mm = some (yp_N 0, mm)) ∨ (n ≤ H c ∧ ∃ mm', fX2_takeOut sh x (yp_N c) n mm = some (yp_N 1, mm') ∧ yp_HC mm' x (yp_mov H c (126 + c) n) ∧ yp_Fr (yp_IH x) mm mm') := by
  have hA := yp_HSx hS
  by_cases h : n ≤ H c
  · refine .inr ⟨h, _, by simp (disch := omega) only [fX2_takeOut, hA, hH.1, h, Nat.reduceLeDiff, Nat.reduceLT, Nat.reduceAdd, Nat.reduceMul, Nat.reduceSub, Nat.reduceEqDiff, Nat.le_refl, Nat.lt_irrefl, Nat.zero_add, Nat.add_zero, yp_LT, yp_nA, yp_nM, yp_leN, yp_ltN, yp_eqN, lt1, yp_sb, yp_sb2, if_false, if_true]; rfl, ?_, ?_⟩
    · have h2 := (hH.w hc (H c - n)).t hc (H (126 + c) + n)
      rw [yp_up2_n _ _ (by omega), hH.2.2.2.1 c hc]
      exact h2
    · exact (yp_Fr.rf.up ⟨by omega, by omega⟩).up ⟨by omega, by omega⟩
  · exact .inl ⟨h, by simp (disch := omega) only [fX2_takeOut, hA, hH.1, h, Nat.reduceLeDiff, Nat.reduceLT, Nat.reduceAdd, Nat.reduceMul, Nat.reduceSub, Nat.reduceEqDiff, Nat.le_refl, Nat.lt_irrefl, Nat.zero_add, Nat.add_zero, yp_LT, yp_nA, yp_nM, yp_leN, yp_ltN, yp_eqN, lt1, yp_sb, yp_sb2, if_false, if_true]⟩
set_option maxHeartbeats 1000000 in
theorem yp_h_give (hS : yp_HS sh x) (hH : yp_HC mm x H) (c : Nat) (n : Int32) (hc : c < 42) : (¬ n ≤ H (126 + c) ∧ fX2_giveBack sh x (yp_N c) n mm = some (yp_N 0, mm)) ∨ (n ≤ H (126 + c) ∧ ∃ mm', fX2_giveBack sh x (yp_N c) n mm = some (yp_N 1, mm') ∧ yp_HC mm' x (yp_mov H (126 + c) c n) ∧ yp_Fr (yp_IH x) mm mm') := by
  have hA := yp_HSx hS
  by_cases h : n ≤ H (126 + c)
  · refine .inr ⟨h, _, by simp (disch := omega) only [fX2_giveBack, hA, hH.2.2.2.1, h, Nat.reduceLeDiff, Nat.reduceLT, Nat.reduceAdd, Nat.reduceMul, Nat.reduceSub, Nat.reduceEqDiff, Nat.le_refl, Nat.lt_irrefl, Nat.zero_add, Nat.add_zero, yp_LT, yp_nA, yp_nM, yp_leN, yp_ltN, yp_eqN, lt1, yp_sb, yp_sb2, if_false, if_true]; rfl, ?_, ?_⟩
    · have h2 := (hH.t hc (H (126 + c) - n)).w hc (H c + n)
      rw [yp_up2_n _ _ (by omega), hH.1 c hc]
      exact h2
    · exact (yp_Fr.rf.up ⟨by omega, by omega⟩).up ⟨by omega, by omega⟩
  · exact .inl ⟨h, by simp (disch := omega) only [fX2_giveBack, hA, hH.2.2.2.1, h, Nat.reduceLeDiff, Nat.reduceLT, Nat.reduceAdd, Nat.reduceMul, Nat.reduceSub, Nat.reduceEqDiff, Nat.le_refl, Nat.lt_irrefl, Nat.zero_add, Nat.add_zero, yp_LT, yp_nA, yp_nM, yp_leN, yp_ltN, yp_eqN, lt1, yp_sb, yp_sb2, if_false, if_true]⟩
def yp_swp (H : Nat → Int32) (i j : Nat) : Nat → Int32 := yp_up1 (yp_up1 H i (H j)) j (H i)
set_option maxHeartbeats 1000000 in
theorem yp_h_change (hS : yp_HS sh x) (hH : yp_HC mm x H) (c d : Nat) (hc : c < 42) (hd : d < 42) : (H c = H d ∧ fX2_change sh x (yp_N c) (yp_N d) mm = some (yp_N 0, mm)) ∨ (¬ H c = H d ∧ ∃ mm', fX2_change sh x (yp_N c) (yp_N d) mm = some (yp_N 1, mm') ∧ yp_HC mm' x (yp_swp H c d) ∧ yp_Fr (yp_IH x) mm mm') := by
  have hA := yp_HSx hS
  by_cases h : H c = H d
  · exact .inl ⟨h, by simp (disch := omega) only [fX2_change, hA, hH.1, h, Nat.reduceLeDiff, Nat.reduceLT, Nat.reduceAdd, Nat.reduceMul, Nat.reduceSub, Nat.reduceEqDiff, Nat.le_refl, Nat.lt_irrefl, Nat.zero_add, Nat.add_zero, yp_LT, yp_nA, yp_nM, yp_leN, yp_ltN, yp_eqN, lt1, yp_sb, yp_sb2, if_false, if_true]⟩
  · refine .inr ⟨h, _, by simp (disch := omega) only [fX2_change, hA, hH.1, h, Nat.reduceLeDiff, Nat.reduceLT, Nat.reduceAdd, Nat.reduceMul, Nat.reduceSub, Nat.reduceEqDiff, Nat.le_refl, Nat.lt_irrefl, Nat.zero_add, Nat.add_zero, yp_LT, yp_nA, yp_nM, yp_leN, yp_ltN, yp_eqN, lt1, yp_sb, yp_sb2, if_false, if_true]; rfl, ?_, ?_⟩
    · exact (hH.w hc (H d)).w hd (H c)
    · exact (yp_Fr.rf.up ⟨by omega, by omega⟩).up ⟨by omega, by omega⟩
end HALL2

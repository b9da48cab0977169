def yp_ctok (t : Nat × Nat) : Int32 := if t.1 = 0 then yp_N t.2 else if t.1 = 1 then yp_N (1000 + t.2) else if t.1 = 2 then yp_N 1100 else if t.1 = 3 then yp_N 1101 else if t.1 = 4 then yp_N 1102 else if t.1 = 5 then yp_N 1103 else if t.1 = 6 then yp_N 1105 else if t.1 = 7 then yp_N 1106 else yp_N 1104
def yp_opv (k : Nat) (a b : Int32) : Int32 := if k = 2 then a + b else if k = 3 then a - b else if k = 4 then a * b else if k = 5 then (if b = yp_N 0 then yp_N 0 else a / b) else if k = 8 then (if b = yp_N 0 then yp_N 0 else a - a / b * b) else if k = 6 then (if b ≤ a then b else a) else (if a ≤ b then b else a)
def yp_depG (tk : Nat → Nat × Nat) (i d : Nat) : Nat := if (tk i).1 ≤ 1 then d + 1 else d - 1
def yp_dep (tk : Nat → Nat × Nat) (k : Nat) : Nat := yp_fo (yp_depG tk) k 0
def yp_evG (tk : Nat → Nat × Nat) (F : Nat → Int32) (i : Nat) (S : Nat → Int32) : Nat → Int32 := if (tk i).1 = 0 then yp_up1 S (yp_dep tk i) (yp_N (tk i).2) else if (tk i).1 = 1 then yp_up1 S (yp_dep tk i) (F (tk i).2) else yp_up1 S (yp_dep tk i - 2) (yp_opv (tk i).1 (S (yp_dep tk i - 2)) (S (yp_dep tk i - 1)))
def yp_evS (tk : Nat → Nat × Nat) (F : Nat → Int32) (k : Nat) : Nat → Int32 := yp_fo (yp_evG tk F) k (fun _ => yp_N 0)
def yp_WFt (tk : Nat → Nat × Nat) (n : Nat) : Prop := (∀ k, k < n → ((tk k).1 = 0 ∧ (tk k).2 < 1000) ∨ ((tk k).1 = 1 ∧ (tk k).2 < 8) ∨ (2 ≤ (tk k).1 ∧ (tk k).1 ≤ 8 ∧ (tk k).2 = 0 ∧ 2 ≤ yp_dep tk k)) ∧ 1 ≤ yp_dep tk n
set_option maxHeartbeats 1000000 in
theorem yp_dep_s (tk : Nat → Nat × Nat) (k : Nat) : yp_dep tk (k + 1) = if (tk k).1 ≤ 1 then yp_dep tk k + 1 else yp_dep tk k - 1 := rfl
set_option maxHeartbeats 1000000 in
theorem yp_evS_s (tk : Nat → Nat × Nat) (F : Nat → Int32) (k : Nat) : yp_evS tk F (k + 1) = yp_evG tk F k (yp_evS tk F k) := rfl
set_option maxHeartbeats 1000000 in
theorem yp_dep_le (tk : Nat → Nat × Nat) (k : Nat) : yp_dep tk k ≤ k := by
  induction k with
  | zero => exact Nat.le_refl 0
  | succ k ih =>
    rw [yp_dep_s]
    split <;> omega
set_option maxHeartbeats 1000000 in
theorem yp_joined_c (k : Nat) (h : 2 ≤ k ∧ k ≤ 8) (a b : Int32) : fX4_joined (yp_ctok (k, 0)) a b = some (yp_opv k a b) := by
  have : k = 2 ∨ k = 3 ∨ k = 4 ∨ k = 5 ∨ k = 6 ∨ k = 7 ∨ k = 8 := by omega
  rcases this with rfl | rfl | rfl | rfl | rfl | rfl | rfl
  · simp (disch := omega) only [fX4_joined, yp_ctok, yp_opv, Nat.reduceEqDiff, Nat.reduceLeDiff, Nat.reduceLT, Nat.reduceAdd, Nat.reduceMul, Nat.reduceSub, Nat.reduceEqDiff, Nat.le_refl, Nat.lt_irrefl, Nat.zero_add, Nat.add_zero, yp_LT, yp_nA, yp_nM, yp_leN, yp_ltN, yp_eqN, lt1, yp_sb, yp_sb2, if_false, if_true]
  · simp (disch := omega) only [fX4_joined, yp_ctok, yp_opv, Nat.reduceEqDiff, Nat.reduceLeDiff, Nat.reduceLT, Nat.reduceAdd, Nat.reduceMul, Nat.reduceSub, Nat.reduceEqDiff, Nat.le_refl, Nat.lt_irrefl, Nat.zero_add, Nat.add_zero, yp_LT, yp_nA, yp_nM, yp_leN, yp_ltN, yp_eqN, lt1, yp_sb, yp_sb2, if_false, if_true]
  · simp (disch := omega) only [fX4_joined, yp_ctok, yp_opv, Nat.reduceEqDiff, Nat.reduceLeDiff, Nat.reduceLT, Nat.reduceAdd, Nat.reduceMul, Nat.reduceSub, Nat.reduceEqDiff, Nat.le_refl, Nat.lt_irrefl, Nat.zero_add, Nat.add_zero, yp_LT, yp_nA, yp_nM, yp_leN, yp_ltN, yp_eqN, lt1, yp_sb, yp_sb2, if_false, if_true]
  · simp (disch := omega) only [fX4_joined, yp_ctok, yp_opv, Nat.reduceEqDiff, fX4_joined_j63, dvI, Nat.reduceLeDiff, Nat.reduceLT, Nat.reduceAdd, Nat.reduceMul, Nat.reduceSub, Nat.reduceEqDiff, Nat.le_refl, Nat.lt_irrefl, Nat.zero_add, Nat.add_zero, yp_LT, yp_nA, yp_nM, yp_leN, yp_ltN, yp_eqN, lt1, yp_sb, yp_sb2, if_false, if_true]
    split
    · rfl
    · rfl
  · simp (disch := omega) only [fX4_joined, yp_ctok, yp_opv, Nat.reduceEqDiff, fX4_joined_j86, Nat.reduceLeDiff, Nat.reduceLT, Nat.reduceAdd, Nat.reduceMul, Nat.reduceSub, Nat.reduceEqDiff, Nat.le_refl, Nat.lt_irrefl, Nat.zero_add, Nat.add_zero, yp_LT, yp_nA, yp_nM, yp_leN, yp_ltN, yp_eqN, lt1, yp_sb, yp_sb2, if_false, if_true]
    split <;> rfl
  · simp (disch := omega) only [fX4_joined, yp_ctok, yp_opv, Nat.reduceEqDiff, fX4_joined_j97, Nat.reduceLeDiff, Nat.reduceLT, Nat.reduceAdd, Nat.reduceMul, Nat.reduceSub, Nat.reduceEqDiff, Nat.le_refl, Nat.lt_irrefl, Nat.zero_add, Nat.add_zero, yp_LT, yp_nA, yp_nM, yp_leN, yp_ltN, yp_eqN, lt1, yp_sb, yp_sb2, if_false, if_true]
    split <;> rfl
  · simp (disch := omega) only [fX4_joined, yp_ctok, yp_opv, Nat.reduceEqDiff, fX4_joined_j75, rmI, Nat.reduceLeDiff, Nat.reduceLT, Nat.reduceAdd, Nat.reduceMul, Nat.reduceSub, Nat.reduceEqDiff, Nat.le_refl, Nat.lt_irrefl, Nat.zero_add, Nat.add_zero, yp_LT, yp_nA, yp_nM, yp_leN, yp_ltN, yp_eqN, lt1, yp_sb, yp_sb2, if_false, if_true]
    split
    · rfl
    · rfl
set_option maxHeartbeats 1000000 in
theorem yp_both_m (k : Nat) (h : 2 ≤ k ∧ k ≤ 8) (a b : Int32) : fX12_both (yp_N k) a b = some (yp_opv k a b) := by
  have : k = 2 ∨ k = 3 ∨ k = 4 ∨ k = 5 ∨ k = 6 ∨ k = 7 ∨ k = 8 := by omega
  rcases this with rfl | rfl | rfl | rfl | rfl | rfl | rfl
  · simp (disch := omega) only [fX12_both, yp_opv, Nat.reduceEqDiff, Nat.reduceLeDiff, Nat.reduceLT, Nat.reduceAdd, Nat.reduceMul, Nat.reduceSub, Nat.reduceEqDiff, Nat.le_refl, Nat.lt_irrefl, Nat.zero_add, Nat.add_zero, yp_LT, yp_nA, yp_nM, yp_leN, yp_ltN, yp_eqN, lt1, yp_sb, yp_sb2, if_false, if_true]
  · simp (disch := omega) only [fX12_both, yp_opv, Nat.reduceEqDiff, Nat.reduceLeDiff, Nat.reduceLT, Nat.reduceAdd, Nat.reduceMul, Nat.reduceSub, Nat.reduceEqDiff, Nat.le_refl, Nat.lt_irrefl, Nat.zero_add, Nat.add_zero, yp_LT, yp_nA, yp_nM, yp_leN, yp_ltN, yp_eqN, lt1, yp_sb, yp_sb2, if_false, if_true]
  · simp (disch := omega) only [fX12_both, yp_opv, Nat.reduceEqDiff, Nat.reduceLeDiff, Nat.reduceLT, Nat.reduceAdd, Nat.reduceMul, Nat.reduceSub, Nat.reduceEqDiff, Nat.le_refl, Nat.lt_irrefl, Nat.zero_add, Nat.add_zero, yp_LT, yp_nA, yp_nM, yp_leN, yp_ltN, yp_eqN, lt1, yp_sb, yp_sb2, if_false, if_true]
  · simp (disch := omega) only [fX12_both, fX12_both_j38, yp_opv, Nat.reduceEqDiff, fX12_both_j60, dvI, Nat.reduceLeDiff, Nat.reduceLT, Nat.reduceAdd, Nat.reduceMul, Nat.reduceSub, Nat.reduceEqDiff, Nat.le_refl, Nat.lt_irrefl, Nat.zero_add, Nat.add_zero, yp_LT, yp_nA, yp_nM, yp_leN, yp_ltN, yp_eqN, lt1, yp_sb, yp_sb2, if_false, if_true]
    split
    · rfl
    · rfl
  · simp (disch := omega) only [fX12_both, fX12_both_j71, fX12_both_j82, fX12_both_j90, yp_opv, Nat.reduceEqDiff, Nat.reduceLeDiff, Nat.reduceLT, Nat.reduceAdd, Nat.reduceMul, Nat.reduceSub, Nat.reduceEqDiff, Nat.le_refl, Nat.lt_irrefl, Nat.zero_add, Nat.add_zero, yp_LT, yp_nA, yp_nM, yp_leN, yp_ltN, yp_eqN, lt1, yp_sb, yp_sb2, if_false, if_true]
    split <;> rfl
  · simp (disch := omega) only [fX12_both, fX12_both_j71, fX12_both_j82, fX12_both_j90, yp_opv, Nat.reduceEqDiff, Nat.reduceLeDiff, Nat.reduceLT, Nat.reduceAdd, Nat.reduceMul, Nat.reduceSub, Nat.reduceEqDiff, Nat.le_refl, Nat.lt_irrefl, Nat.zero_add, Nat.add_zero, yp_LT, yp_nA, yp_nM, yp_leN, yp_ltN, yp_eqN, lt1, yp_sb, yp_sb2, if_false, if_true]
    by_cases h1 : b ≤ a
    · by_cases h2 : a ≤ b
      · have : a = b := Int32.le_antisymm h2 h1
        subst this
        simp
      · simp [h1, h2]
    · have h2 : a ≤ b := Int32.le_of_lt (Int32.not_le.mp h1)
      simp [h1, h2]
  · simp (disch := omega) only [fX12_both, fX12_both_j38, yp_opv, Nat.reduceEqDiff, fX12_both_j60, rmI, Nat.reduceLeDiff, Nat.reduceLT, Nat.reduceAdd, Nat.reduceMul, Nat.reduceSub, Nat.reduceEqDiff, Nat.le_refl, Nat.lt_irrefl, Nat.zero_add, Nat.add_zero, yp_LT, yp_nA, yp_nM, yp_leN, yp_ltN, yp_eqN, lt1, yp_sb, yp_sb2, if_false, if_true]
    split
    · rfl
    · rfl
set_option maxHeartbeats 1000000 in
theorem yp_ctok_lt {tk : Nat × Nat} (h : (tk.1 = 0 ∧ tk.2 < 1000) ∨ (tk.1 = 1 ∧ tk.2 < 8)) : (yp_N 1100 ≤ yp_ctok tk) = False := by
  unfold yp_ctok
  rcases h with ⟨h, h2⟩ | ⟨h, h2⟩
  · rw [if_pos h]
    simp (disch := omega) only [(show (1100 ≤ tk.2) = False by simp only [eq_iff_iff, iff_false]; omega), Nat.reduceLeDiff, Nat.reduceLT, Nat.reduceAdd, Nat.reduceMul, Nat.reduceSub, Nat.reduceEqDiff, Nat.le_refl, Nat.lt_irrefl, Nat.zero_add, Nat.add_zero, yp_LT, yp_nA, yp_nM, yp_leN, yp_ltN, yp_eqN, lt1, yp_sb, yp_sb2, if_false, if_true]
  · rw [if_neg (by omega), if_pos h]
    simp (disch := omega) only [(show (1100 ≤ 1000 + tk.2) = False by simp only [eq_iff_iff, iff_false]; omega), Nat.reduceLeDiff, Nat.reduceLT, Nat.reduceAdd, Nat.reduceMul, Nat.reduceSub, Nat.reduceEqDiff, Nat.le_refl, Nat.lt_irrefl, Nat.zero_add, Nat.add_zero, yp_LT, yp_nA, yp_nM, yp_leN, yp_ltN, yp_eqN, lt1, yp_sb, yp_sb2, if_false, if_true]
set_option maxHeartbeats 1000000 in
theorem yp_ctok_ge {tk : Nat × Nat} (h : 2 ≤ tk.1 ∧ tk.1 ≤ 8) : (yp_N 1100 ≤ yp_ctok tk) = True := by
  unfold yp_ctok
  simp only [show ¬ tk.1 = 0 by omega, show ¬ tk.1 = 1 by omega, if_false]
  repeat' split
  all_goals simp (disch := omega) only [Nat.reduceLeDiff, Nat.reduceLT, Nat.reduceAdd, Nat.reduceMul, Nat.reduceSub, Nat.reduceEqDiff, Nat.le_refl, Nat.lt_irrefl, Nat.zero_add, Nat.add_zero, yp_LT, yp_nA, yp_nM, yp_leN, yp_ltN, yp_eqN, lt1, yp_sb, yp_sb2, if_false, if_true]
abbrev yp_EnvT : Type := (Nat × Nat × Nat) × (Nat → Int32) × (Nat → Int32) × (Nat → Int32) × Nat × (Nat → Nat × Nat)
abbrev yp_qf (Q : yp_EnvT) : Nat := Q.1.1
abbrev yp_qg (Q : yp_EnvT) : Nat := Q.1.2.1
abbrev yp_qw (Q : yp_EnvT) : Nat := Q.1.2.2
abbrev yp_qM (Q : yp_EnvT) : Nat → Int32 := Q.2.1
abbrev yp_qb (Q : yp_EnvT) : Nat → Int32 := Q.2.2.1
abbrev yp_qk (Q : yp_EnvT) : Nat → Int32 := Q.2.2.2.1
abbrev yp_qn (Q : yp_EnvT) : Nat := Q.2.2.2.2.1
abbrev yp_qt (Q : yp_EnvT) : Nat → Nat × Nat := Q.2.2.2.2.2
def yp_EV (Q : yp_EnvT) : Prop := yp_qf Q ≤ 6 ∧ yp_qg Q ≤ 8 ∧ 10 ≤ yp_qw Q ∧ yp_qw Q ≤ 99 ∧ (∀ g, g < yp_qg Q → yp_qk Q g = yp_N 0 ∨ yp_qk Q g = yp_N 1) ∧ yp_qn Q ≤ 150 ∧ yp_WFt (yp_qt Q) (yp_qn Q) ∧ (∀ k, k < 42 → 0 ≤ (yp_qM Q k).toInt ∧ (yp_qM Q k).toInt ≤ 40) ∧ (∀ k, k < 42 → yp_qf Q * 7 ≤ k → yp_qM Q k = yp_N 0)
def yp_plainT : Nat → Nat × Nat := fun k => if k = 0 then (1, 0) else if k = 1 then (0, 1) else if k = 2 then (2, 0) else if k = 3 then (1, 2) else (4, 0)
def yp_CLc (B : Nat) (mm : Mem) (Q : yp_EnvT) : Prop := mm (B + 3) 3 = yp_N (yp_qf Q) ∧ mm (B + 3) 4 = yp_N (yp_qg Q) ∧ mm (B + 3) 5 = yp_N (yp_qw Q) ∧ (∀ g, g < yp_qg Q → mm (B + 5) g = yp_qb Q g) ∧ (∀ g, g < yp_qg Q → mm (B + 6) g = yp_qk Q g) ∧ mm (B + 11) 2 = yp_N (yp_qn Q) ∧ (∀ k, k < yp_qn Q → mm (B + 12) k = yp_ctok (yp_qt Q k))
def yp_CLm (B : Nat) (mm : Mem) (Q : yp_EnvT) : Prop := mm (B + 517) 17 = yp_N (yp_qf Q) ∧ mm (B + 517) 18 = yp_N (yp_qg Q) ∧ mm (B + 517) 19 = yp_N (yp_qw Q) ∧ (∀ g, g < yp_qg Q → mm (B + 523) (2 * g) = yp_qb Q g) ∧ (∀ g, g < yp_qg Q → mm (B + 523) (2 * g + 1) = yp_qk Q g) ∧ ((mm (B + 517) 26 = yp_N 0 ∧ yp_qn Q = 5 ∧ yp_qt Q = yp_plainT) ∨ (mm (B + 517) 26 = yp_N (yp_qn Q) ∧ 1 ≤ yp_qn Q ∧ (∀ k, k < yp_qn Q → mm (B + 526) k = yp_N (yp_qt Q k).1) ∧ (∀ k, k < yp_qn Q → mm (B + 527) k = yp_N (yp_qt Q k).2)))
set_option maxHeartbeats 1000000 in
theorem yp_CLc.fr {B : Nat} {mm mm' : Mem} {Q : yp_EnvT} (h : yp_CLc B mm Q) (hF : ∀ a j, (a = B + 3 ∨ a = B + 5 ∨ a = B + 6 ∨ a = B + 11 ∨ a = B + 12) → mm' a j = mm a j) : yp_CLc B mm' Q := by
  obtain ⟨h1, h2, h3, h4, h5, h6, h7⟩ := h
  exact ⟨(hF _ _ (by omega)).trans h1, (hF _ _ (by omega)).trans h2, (hF _ _ (by omega)).trans h3, fun g hg => (hF _ _ (by omega)).trans (h4 g hg), fun g hg => (hF _ _ (by omega)).trans (h5 g hg), (hF _ _ (by omega)).trans h6, fun k hk => (hF _ _ (by omega)).trans (h7 k hk)⟩
set_option maxHeartbeats 1000000 in
theorem yp_CLm.fr {B : Nat} {mm mm' : Mem} {Q : yp_EnvT} (h : yp_CLm B mm Q) (hF : ∀ a j, ((a = B + 517 ∧ (j = 17 ∨ j = 18 ∨ j = 19 ∨ j = 26)) ∨ a = B + 523 ∨ a = B + 526 ∨ a = B + 527) → mm' a j = mm a j) : yp_CLm B mm' Q := by
  obtain ⟨h1, h2, h3, h4, h5, h6⟩ := h
  refine ⟨(hF _ _ (by omega)).trans h1, (hF _ _ (by omega)).trans h2, (hF _ _ (by omega)).trans h3, fun g hg => (hF _ _ (by omega)).trans (h4 g hg), fun g hg => (hF _ _ (by omega)).trans (h5 g hg), ?_⟩
  rcases h6 with ⟨h6, h7⟩ | ⟨h6, h7, h8, h9⟩
  · exact .inl ⟨(hF _ _ (by omega)).trans h6, h7⟩
  · exact .inr ⟨(hF _ _ (by omega)).trans h6, h7, fun k hk => (hF _ _ (by omega)).trans (h8 k hk), fun k hk => (hF _ _ (by omega)).trans (h9 k hk)⟩
section LAW
variable {B : Nat} {mm : Mem} {Q : yp_EnvT}
set_option maxHeartbeats 1000000 in
theorem yp_lawS (B : Nat) : (rR (yp_SH B) 4 (B + 11) 0 = some (B + 12) ∧ rR (yp_SH B) 4 (B + 11) 1 = some (B + 13) ∧ isO (yp_SH B) 4 (B + 11) = some () ∧ (∀ mm k, rI (yp_SH B) mm 4 (B + 11) k = some (mm (B + 11) k)) ∧ aN (yp_SH B) (B + 13) = some (yp_N 151)) ∧ (∀ mm k, k < 151 → aL (yp_SH B) mm (B + 12) (yp_N k) = some (mm (B + 12) k)) ∧ (∀ mm k, k < 151 → aL (yp_SH B) mm (B + 13) (yp_N k) = some (mm (B + 13) k)) ∧ (∀ mm k v, k < 151 → aS (yp_SH B) mm (B + 13) (yp_N k) v = some (up2 mm (B + 13) k v)) := by
  refine ⟨⟨?_, ?_, ?_, ?_, ?_⟩, fun mm k h => yp_aLN (yp_sa12 B) mm k h (by omega), fun mm k h => yp_aLN (yp_sa13 B) mm k h (by omega), fun mm k v h => yp_aSN (yp_sa13 B) mm k v h (by omega)⟩
  · rw [rR, yp_so11]; rfl
  · rw [rR, yp_so11]; rfl
  · rw [isO, yp_so11]; rfl
  · intro mm k; rw [rI, yp_so11]; rfl
  · rw [aN, yp_sa13]; rfl
set_option maxHeartbeats 1000000 in
theorem yp_tokK {t : Nat × Nat} (h : 2 ≤ t.1 ∧ t.1 ≤ 8 ∧ t.2 = 0) : t = (t.1, 0) := Prod.ext rfl h.2.2
set_option maxHeartbeats 1000000 in
theorem yp_c_value (hE : yp_EV Q) (hC : yp_CLc B mm Q) {a na : Nat} {F : Nat → Int32} (ha : yp_SH B a = some (.inl na)) (hna : 8 ≤ na) (hne : a ≠ B + 13) (hk : ∀ j, j < 8 → mm a j = F j) : ∃ mm', fX4_valueFor (yp_SH B) (B + 11) a mm = some (yp_evS (yp_qt Q) F (yp_qn Q) 0, mm') ∧ yp_Fr (fun b _ => b = B + 13) mm mm' := by
  have hA := yp_lawS B
  obtain ⟨hE1, hE2, hE3, hE4, hE5, hn, hW, hW2⟩ := hE
  obtain ⟨g1, g2, g3, g4, g5, hl, hc⟩ := hC
  simp (disch := omega) only [fX4_valueFor, Nat.reduceLeDiff, Nat.reduceLT, Nat.reduceAdd, Nat.reduceMul, Nat.reduceSub, Nat.reduceEqDiff, Nat.le_refl, Nat.lt_irrefl, Nat.zero_add, Nat.add_zero, yp_LT, yp_nA, yp_nM, yp_leN, yp_ltN, yp_eqN, lt1, yp_sb, yp_sb2, if_false, if_true]
  obtain ⟨r, h1, m1, rfl, h2, h3⟩ := yp_lpI (step := fun st : Int32 × Int32 × Mem => fX4_valueFor_b4 (yp_SH B) (B + 11) a st.1 st.2.1 st.2.2) (fun k st => ∃ m, st = (yp_N (yp_dep (yp_qt Q) k), yp_N k, m) ∧ (∀ j, j < yp_dep (yp_qt Q) k → m (B + 13) j = yp_evS (yp_qt Q) F k j) ∧ yp_Fr (fun b _ => b = B + 13) mm m) (fun x => ∃ m, x = .inr (.inr m) ∧ (∀ j, j < yp_dep (yp_qt Q) (yp_qn Q) → m (B + 13) j = yp_evS (yp_qt Q) F (yp_qn Q) j) ∧ yp_Fr (fun b _ => b = B + 13) mm m) (yp_qn Q) (fun k st hk9 hI => by
    obtain ⟨m, rfl, hs, hF⟩ := hI
    have e0 : m (B + 11) 2 = yp_N (yp_qn Q) := (hF _ _ (by omega)).trans hl
    by_cases hkn : k = yp_qn Q
    · subst hkn
      exact .inr ⟨_, by simp (disch := omega) only [fX4_valueFor_b4, hA, e0, Nat.reduceLeDiff, Nat.reduceLT, Nat.reduceAdd, Nat.reduceMul, Nat.reduceSub, Nat.reduceEqDiff, Nat.le_refl, Nat.lt_irrefl, Nat.zero_add, Nat.add_zero, yp_LT, yp_nA, yp_nM, yp_leN, yp_ltN, yp_eqN, lt1, yp_sb, yp_sb2, if_false, if_true], m, rfl, hs, hF⟩
    · have hkn : k < yp_qn Q := by omega
      have e1 : m (B + 12) k = yp_ctok (yp_qt Q k) := (hF _ _ (by omega)).trans (hc k hkn)
      have hd := yp_dep_le (yp_qt Q) k
      refine .inl ⟨hkn, ?_⟩
      rcases hW.1 k hkn with hw | hw | hw
      · have e2 := yp_ctok_lt (.inl hw)
        have e3 : yp_ctok (yp_qt Q k) = yp_N (yp_qt Q k).2 := by unfold yp_ctok; rw [if_pos hw.1]
        have d1 : yp_dep (yp_qt Q) (k + 1) = yp_dep (yp_qt Q) k + 1 := by rw [yp_dep_s, if_pos (by omega)]
        refine ⟨(yp_N (yp_dep (yp_qt Q) (k + 1)), yp_N (k + 1), up2 m (B + 13) (yp_dep (yp_qt Q) k) (yp_N (yp_qt Q k).2)), ?_, _, rfl, ?_, hF.up rfl⟩
        · simp (disch := omega) only [fX4_valueFor_b4, fX4_valueFor_j65, fX4_valueFor_j109, hA, e0, e1, e2, (show (yp_qn Q ≤ k) = False by simp only [eq_iff_iff, iff_false]; omega), (show (yp_dep (yp_qt Q) k < 151) = True by simp only [eq_iff_iff, iff_true]; omega), d1, Nat.reduceLeDiff, Nat.reduceLT, Nat.reduceAdd, Nat.reduceMul, Nat.reduceSub, Nat.reduceEqDiff, Nat.le_refl, Nat.lt_irrefl, Nat.zero_add, Nat.add_zero, yp_LT, yp_nA, yp_nM, yp_leN, yp_ltN, yp_eqN, lt1, yp_sb, yp_sb2, if_false, if_true]
          simp (disch := omega) only [e3, (show (1000 ≤ (yp_qt Q k).2) = False by simp only [eq_iff_iff, iff_false]; omega), hA, Nat.reduceLeDiff, Nat.reduceLT, Nat.reduceAdd, Nat.reduceMul, Nat.reduceSub, Nat.reduceEqDiff, Nat.le_refl, Nat.lt_irrefl, Nat.zero_add, Nat.add_zero, yp_LT, yp_nA, yp_nM, yp_leN, yp_ltN, yp_eqN, lt1, yp_sb, yp_sb2, if_false, if_true]
        · intro j hj
          rw [yp_evS_s]
          unfold yp_evG
          rw [if_pos hw.1]
          unfold up2 yp_up1
          by_cases e : j = yp_dep (yp_qt Q) k
          · simp [e]
          · simp only [e, and_false, if_false]
            exact hs j (by omega)
      · have e2 := yp_ctok_lt (.inr hw)
        have e3 : yp_ctok (yp_qt Q k) = yp_N (1000 + (yp_qt Q k).2) := by unfold yp_ctok; rw [if_neg (by omega), if_pos hw.1]
        have d1 : yp_dep (yp_qt Q) (k + 1) = yp_dep (yp_qt Q) k + 1 := by rw [yp_dep_s, if_pos (by omega)]
        have e4 : m a (yp_qt Q k).2 = F (yp_qt Q k).2 := (hF _ _ hne).trans (hk _ hw.2)
        refine ⟨(yp_N (yp_dep (yp_qt Q) (k + 1)), yp_N (k + 1), up2 m (B + 13) (yp_dep (yp_qt Q) k) (F (yp_qt Q k).2)), ?_, _, rfl, ?_, hF.up rfl⟩
        · simp (disch := omega) only [fX4_valueFor_b4, fX4_valueFor_j65, fX4_valueFor_j109, hA, e0, e1, e2, (show (yp_qn Q ≤ k) = False by simp only [eq_iff_iff, iff_false]; omega), (show (yp_dep (yp_qt Q) k < 151) = True by simp only [eq_iff_iff, iff_true]; omega), d1, Nat.reduceLeDiff, Nat.reduceLT, Nat.reduceAdd, Nat.reduceMul, Nat.reduceSub, Nat.reduceEqDiff, Nat.le_refl, Nat.lt_irrefl, Nat.zero_add, Nat.add_zero, yp_LT, yp_nA, yp_nM, yp_leN, yp_ltN, yp_eqN, lt1, yp_sb, yp_sb2, if_false, if_true]
          simp (disch := omega) only [e3, (show (1000 ≤ 1000 + (yp_qt Q k).2) = True by simp only [eq_iff_iff, iff_true]; omega), yp_nS, Nat.add_sub_cancel_left, yp_aLN ha, e4, hA, Nat.reduceLeDiff, Nat.reduceLT, Nat.reduceAdd, Nat.reduceMul, Nat.reduceSub, Nat.reduceEqDiff, Nat.le_refl, Nat.lt_irrefl, Nat.zero_add, Nat.add_zero, yp_LT, yp_nA, yp_nM, yp_leN, yp_ltN, yp_eqN, lt1, yp_sb, yp_sb2, if_false, if_true]
        · intro j hj
          rw [yp_evS_s]
          unfold yp_evG
          rw [if_neg (by omega), if_pos hw.1]
          unfold up2 yp_up1
          by_cases e : j = yp_dep (yp_qt Q) k
          · simp [e]
          · simp only [e, and_false, if_false]
            exact hs j (by omega)
      · have e2 := yp_ctok_ge ⟨hw.1, hw.2.1⟩
        have d1 : yp_dep (yp_qt Q) (k + 1) = yp_dep (yp_qt Q) k - 1 := by rw [yp_dep_s, if_neg (by omega)]
        obtain ⟨d, hd2⟩ : ∃ d, yp_dep (yp_qt Q) k = d + 2 := ⟨yp_dep (yp_qt Q) k - 2, by omega⟩
        rw [hd2] at d1
        have f1 := hs d (by omega)
        have f2 := hs (d + 1) (by omega)
        have e5 : yp_N (d + 2) + -yp_N 1 = yp_N (d + 1) := by
          rw [← Int32.sub_eq_add_neg, yp_nS (by omega)]
          rfl
        have e6 := yp_joined_c (yp_qt Q k).1 ⟨hw.1, hw.2.1⟩ (yp_evS (yp_qt Q) F k d) (yp_evS (yp_qt Q) F k (d + 1))
        rw [← yp_tokK ⟨hw.1, hw.2.1, hw.2.2.1⟩] at e6
        refine ⟨(yp_N (yp_dep (yp_qt Q) (k + 1)), yp_N (k + 1), up2 m (B + 13) d (yp_opv (yp_qt Q k).1 (yp_evS (yp_qt Q) F k d) (yp_evS (yp_qt Q) F k (d + 1)))), ?_, _, rfl, ?_, hF.up rfl⟩
        · simp (disch := omega) only [fX4_valueFor_b4, fX4_valueFor_j109, hA, e0, e1, e2, (show (yp_qn Q ≤ k) = False by simp only [eq_iff_iff, iff_false]; omega), hd2, (show (2 ≤ d + 2) = True by simp only [eq_iff_iff, iff_true]; omega), e5, yp_nS, Nat.add_sub_cancel, f1, f2, e6, d1, Nat.reduceLeDiff, Nat.reduceLT, Nat.reduceAdd, Nat.reduceMul, Nat.reduceSub, Nat.reduceEqDiff, Nat.le_refl, Nat.lt_irrefl, Nat.zero_add, Nat.add_zero, yp_LT, yp_nA, yp_nM, yp_leN, yp_ltN, yp_eqN, lt1, yp_sb, yp_sb2, if_false, if_true]
          rfl
        · intro j hj
          rw [d1] at hj
          rw [yp_evS_s]
          unfold yp_evG
          rw [if_neg (by omega), if_neg (by omega), hd2]
          unfold up2 yp_up1
          by_cases e : j = d
          · simp [e]
          · simp only [e, and_false, if_false, Nat.add_sub_cancel]
            exact hs j (by omega)) (show yp_qn Q < FU by rw [yp_FUe]; omega) (s0 := (yp_N 0, yp_N 0, mm)) ⟨mm, rfl, fun j hj => absurd hj (Nat.not_lt_zero j), yp_Fr.rf⟩
  rw [h1]
  have e9 := h2 0 (by have := hW.2; omega)
  refine ⟨m1, ?_, h3⟩
  simp only [yp_sb, Sum.elim]
  simp (disch := omega) only [fX4_valueFor_j115, hA, e9, Nat.reduceLeDiff, Nat.reduceLT, Nat.reduceAdd, Nat.reduceMul, Nat.reduceSub, Nat.reduceEqDiff, Nat.le_refl, Nat.lt_irrefl, Nat.zero_add, Nat.add_zero, yp_LT, yp_nA, yp_nM, yp_leN, yp_ltN, yp_eqN, lt1, yp_sb, yp_sb2, if_false, if_true]
set_option maxHeartbeats 1000000 in
theorem yp_refS (B : Nat) : ((rR (yp_SH B) 12 (B + 517) 22 = some (B + 526) ∧ rR (yp_SH B) 12 (B + 517) 23 = some (B + 527) ∧ rR (yp_SH B) 12 (B + 517) 24 = some (B + 528) ∧ rR (yp_SH B) 12 (B + 517) 27 = some (B + 529) ∧ rR (yp_SH B) 12 (B + 517) 13 = some (B + 523) ∧ rR (yp_SH B) 12 (B + 517) 39 = some (B + 535)) ∧ isO (yp_SH B) 12 (B + 517) = some () ∧ (∀ mm k, rI (yp_SH B) mm 12 (B + 517) k = some (mm (B + 517) k)) ∧ (∀ mm k v, wI (yp_SH B) mm 12 (B + 517) k v = some (up2 mm (B + 517) k v))) ∧ (∀ mm k, k < 150 → aL (yp_SH B) mm (B + 526) (yp_N k) = some (mm (B + 526) k)) ∧ (∀ mm k, k < 150 → aL (yp_SH B) mm (B + 527) (yp_N k) = some (mm (B + 527) k)) ∧ (∀ mm k, k < 150 → aL (yp_SH B) mm (B + 528) (yp_N k) = some (mm (B + 528) k)) ∧ (∀ mm k v, k < 150 → aS (yp_SH B) mm (B + 528) (yp_N k) v = some (up2 mm (B + 528) k v)) ∧ (∀ mm k, k < 8 → aL (yp_SH B) mm (B + 529) (yp_N k) = some (mm (B + 529) k)) ∧ (∀ mm k v, k < 8 → aS (yp_SH B) mm (B + 529) (yp_N k) v = some (up2 mm (B + 529) k v)) ∧ (∀ mm k, k < 16 → aL (yp_SH B) mm (B + 523) (yp_N k) = some (mm (B + 523) k)) ∧ (∀ mm k, k < 7 → aL (yp_SH B) mm (B + 535) (yp_N k) = some (mm (B + 535) k)) ∧ (∀ mm k v, k < 7 → aS (yp_SH B) mm (B + 535) (yp_N k) v = some (up2 mm (B + 535) k v)) := by
  refine ⟨⟨⟨?_, ?_, ?_, ?_, ?_, ?_⟩, ?_, ?_, ?_⟩, fun mm k h => yp_aLN (yp_sa526 B) mm k h (by omega), fun mm k h => yp_aLN (yp_sa527 B) mm k h (by omega), fun mm k h => yp_aLN (yp_sa528 B) mm k h (by omega), fun mm k v h => yp_aSN (yp_sa528 B) mm k v h (by omega), fun mm k h => yp_aLN (yp_sa529 B) mm k h (by omega), fun mm k v h => yp_aSN (yp_sa529 B) mm k v h (by omega), fun mm k h => yp_aLN (yp_sa523 B) mm k h (by omega), fun mm k h => yp_aLN (yp_sa535 B) mm k h (by omega), fun mm k v h => yp_aSN (yp_sa535 B) mm k v h (by omega)⟩
  · rw [rR, yp_so517]; rfl
  · rw [rR, yp_so517]; rfl
  · rw [rR, yp_so517]; rfl
  · rw [rR, yp_so517]; rfl
  · rw [rR, yp_so517]; rfl
  · rw [rR, yp_so517]; rfl
  · rw [isO, yp_so517]; rfl
  · intro mm k; rw [rI, yp_so517]; rfl
  · intro mm k v; rw [wI, yp_so517]; rfl
set_option maxHeartbeats 1000000 in
theorem yp_m_value (hE : yp_EV Q) (hc26 : mm (B + 517) 26 = yp_N (yp_qn Q)) (hc1 : ∀ k, k < yp_qn Q → mm (B + 526) k = yp_N (yp_qt Q k).1) (hc2 : ∀ k, k < yp_qn Q → mm (B + 527) k = yp_N (yp_qt Q k).2) {F : Nat → Int32} (hk : ∀ j, j < 8 → mm (B + 529) j = F j) : ∃ mm', fX12_valueNow (yp_SH B) (B + 517) mm = some (yp_evS (yp_qt Q) F (yp_qn Q) 0, mm') ∧ yp_Fr (fun b _ => b = B + 528) mm mm' := by
  have hA := yp_refS B
  obtain ⟨hE1, hE2, hE3, hE4, hE5, hn, hW, hW2⟩ := hE
  simp (disch := omega) only [fX12_valueNow, Nat.reduceLeDiff, Nat.reduceLT, Nat.reduceAdd, Nat.reduceMul, Nat.reduceSub, Nat.reduceEqDiff, Nat.le_refl, Nat.lt_irrefl, Nat.zero_add, Nat.add_zero, yp_LT, yp_nA, yp_nM, yp_leN, yp_ltN, yp_eqN, lt1, yp_sb, yp_sb2, if_false, if_true]
  obtain ⟨r, h1, h2, h3⟩ := yp_lpI (step := fun st : Int32 × Int32 × Mem => fX12_valueNow_b4 (yp_SH B) (B + 517) st.1 st.2.1 st.2.2) (fun k st => ∃ m, st = (yp_N (yp_dep (yp_qt Q) k), yp_N k, m) ∧ (∀ j, j < yp_dep (yp_qt Q) k → m (B + 528) j = yp_evS (yp_qt Q) F k j) ∧ yp_Fr (fun b _ => b = B + 528) mm m) (fun m => (∀ j, j < yp_dep (yp_qt Q) (yp_qn Q) → m (B + 528) j = yp_evS (yp_qt Q) F (yp_qn Q) j) ∧ yp_Fr (fun b _ => b = B + 528) mm m) (yp_qn Q) (fun k st hk9 hI => by
    obtain ⟨m, rfl, hs, hF⟩ := hI
    have e0 : m (B + 517) 26 = yp_N (yp_qn Q) := (hF _ _ (by omega)).trans hc26
    by_cases hkn : k = yp_qn Q
    · subst hkn
      exact .inr ⟨_, by simp (disch := omega) only [fX12_valueNow_b4, hA, e0, Nat.reduceLeDiff, Nat.reduceLT, Nat.reduceAdd, Nat.reduceMul, Nat.reduceSub, Nat.reduceEqDiff, Nat.le_refl, Nat.lt_irrefl, Nat.zero_add, Nat.add_zero, yp_LT, yp_nA, yp_nM, yp_leN, yp_ltN, yp_eqN, lt1, yp_sb, yp_sb2, if_false, if_true], hs, hF⟩
    · have hkn : k < yp_qn Q := by omega
      have e1 : m (B + 526) k = yp_N (yp_qt Q k).1 := (hF _ _ (by omega)).trans (hc1 k hkn)
      have e1' : m (B + 527) k = yp_N (yp_qt Q k).2 := (hF _ _ (by omega)).trans (hc2 k hkn)
      have hd := yp_dep_le (yp_qt Q) k
      refine .inl ⟨hkn, ?_⟩
      rcases hW.1 k hkn with hw | hw | hw
      · have d1 : yp_dep (yp_qt Q) (k + 1) = yp_dep (yp_qt Q) k + 1 := by rw [yp_dep_s, if_pos (by omega)]
        refine ⟨(yp_N (yp_dep (yp_qt Q) (k + 1)), yp_N (k + 1), up2 m (B + 528) (yp_dep (yp_qt Q) k) (yp_N (yp_qt Q k).2)), ?_, _, rfl, ?_, hF.up rfl⟩
        · simp (disch := omega) only [fX12_valueNow_b4, fX12_valueNow_j53, fX12_valueNow_j89, hA, e0, e1, e1', (show (yp_qn Q ≤ k) = False by simp only [eq_iff_iff, iff_false]; omega), hw.1, d1, Nat.reduceLeDiff, Nat.reduceLT, Nat.reduceAdd, Nat.reduceMul, Nat.reduceSub, Nat.reduceEqDiff, Nat.le_refl, Nat.lt_irrefl, Nat.zero_add, Nat.add_zero, yp_LT, yp_nA, yp_nM, yp_leN, yp_ltN, yp_eqN, lt1, yp_sb, yp_sb2, if_false, if_true]
        · intro j hj
          rw [yp_evS_s]
          unfold yp_evG
          rw [if_pos hw.1]
          unfold up2 yp_up1
          by_cases e : j = yp_dep (yp_qt Q) k
          · simp [e]
          · simp only [e, and_false, if_false]
            exact hs j (by omega)
      · have d1 : yp_dep (yp_qt Q) (k + 1) = yp_dep (yp_qt Q) k + 1 := by rw [yp_dep_s, if_pos (by omega)]
        have e4 : m (B + 529) (yp_qt Q k).2 = F (yp_qt Q k).2 := (hF _ _ (by omega)).trans (hk _ hw.2)
        refine ⟨(yp_N (yp_dep (yp_qt Q) (k + 1)), yp_N (k + 1), up2 m (B + 528) (yp_dep (yp_qt Q) k) (F (yp_qt Q k).2)), ?_, _, rfl, ?_, hF.up rfl⟩
        · simp (disch := omega) only [fX12_valueNow_b4, fX12_valueNow_j53, fX12_valueNow_j89, hA, e0, e1, e1', e4, (show (yp_qn Q ≤ k) = False by simp only [eq_iff_iff, iff_false]; omega), hw.1, d1, Nat.reduceLeDiff, Nat.reduceLT, Nat.reduceAdd, Nat.reduceMul, Nat.reduceSub, Nat.reduceEqDiff, Nat.le_refl, Nat.lt_irrefl, Nat.zero_add, Nat.add_zero, yp_LT, yp_nA, yp_nM, yp_leN, yp_ltN, yp_eqN, lt1, yp_sb, yp_sb2, if_false, if_true]
        · intro j hj
          rw [yp_evS_s]
          unfold yp_evG
          rw [if_neg (by omega), if_pos hw.1]
          unfold up2 yp_up1
          by_cases e : j = yp_dep (yp_qt Q) k
          · simp [e]
          · simp only [e, and_false, if_false]
            exact hs j (by omega)
      · have d1 : yp_dep (yp_qt Q) (k + 1) = yp_dep (yp_qt Q) k - 1 := by rw [yp_dep_s, if_neg (by omega)]
        obtain ⟨d, hd2⟩ : ∃ d, yp_dep (yp_qt Q) k = d + 2 := ⟨yp_dep (yp_qt Q) k - 2, by omega⟩
        rw [hd2] at d1
        have f1 := hs d (by omega)
        have f2 := hs (d + 1) (by omega)
        have e5 : yp_N (d + 2) + -yp_N 1 = yp_N (d + 1) := by
          rw [← Int32.sub_eq_add_neg, yp_nS (by omega)]
          rfl
        have e6 := yp_both_m (yp_qt Q k).1 ⟨hw.1, hw.2.1⟩ (yp_evS (yp_qt Q) F k d) (yp_evS (yp_qt Q) F k (d + 1))
        refine ⟨(yp_N (yp_dep (yp_qt Q) (k + 1)), yp_N (k + 1), up2 m (B + 528) d (yp_opv (yp_qt Q k).1 (yp_evS (yp_qt Q) F k d) (yp_evS (yp_qt Q) F k (d + 1)))), ?_, _, rfl, ?_, hF.up rfl⟩
        · simp (disch := omega) only [fX12_valueNow_b4, fX12_valueNow_j89, hA, e0, e1, (show (yp_qn Q ≤ k) = False by simp only [eq_iff_iff, iff_false]; omega), hd2, (show (1 < (yp_qt Q k).1) = True by simp only [eq_iff_iff, iff_true]; omega), e5, yp_nS, Nat.add_sub_cancel, f1, f2, e6, d1, Nat.reduceLeDiff, Nat.reduceLT, Nat.reduceAdd, Nat.reduceMul, Nat.reduceSub, Nat.reduceEqDiff, Nat.le_refl, Nat.lt_irrefl, Nat.zero_add, Nat.add_zero, yp_LT, yp_nA, yp_nM, yp_leN, yp_ltN, yp_eqN, lt1, yp_sb, yp_sb2, if_false, if_true]
          rfl
        · intro j hj
          rw [d1] at hj
          rw [yp_evS_s]
          unfold yp_evG
          rw [if_neg (by omega), if_neg (by omega), hd2]
          unfold up2 yp_up1
          by_cases e : j = d
          · simp [e]
          · simp only [e, and_false, if_false, Nat.add_sub_cancel]
            exact hs j (by omega)) (show yp_qn Q < FU by rw [yp_FUe]; omega) (s0 := (yp_N 0, yp_N 0, mm)) ⟨mm, rfl, fun j hj => absurd hj (Nat.not_lt_zero j), yp_Fr.rf⟩
  rw [h1]
  have e9 := h2 0 (by have := hW.2; omega)
  exact ⟨r, by simp (disch := omega) only [fX12_valueNow_j95, hA, e9, Nat.reduceLeDiff, Nat.reduceLT, Nat.reduceAdd, Nat.reduceMul, Nat.reduceSub, Nat.reduceEqDiff, Nat.le_refl, Nat.lt_irrefl, Nat.zero_add, Nat.add_zero, yp_LT, yp_nA, yp_nM, yp_leN, yp_ltN, yp_eqN, lt1, yp_sb, yp_sb2, if_false, if_true], h3⟩
def yp_bnd (w : Nat) (v : Int32) : Int32 := if yp_N 0 ≤ v then (if yp_N w ≤ v then yp_N (w - 1) else v) else yp_N 0
set_option maxHeartbeats 1000000 in
theorem yp_plain_val (F : Nat → Int32) : yp_evS yp_plainT F 5 0 = (F 0 + yp_N 1) * F 2 := by
  simp [yp_evS, yp_fo, yp_evG, yp_plainT, yp_dep, yp_depG, yp_up1, yp_opv]
set_option maxHeartbeats 1000000 in
theorem yp_m_turns (hE : yp_EV Q) (hC : yp_CLm B mm Q) {F : Nat → Int32} (hk : ∀ j, j < 8 → mm (B + 529) j = F j) : ∃ mm', fX12_turnsNow (yp_SH B) (B + 517) mm = some (yp_bnd (yp_qw Q) (yp_evS (yp_qt Q) F (yp_qn Q) 0), mm') ∧ yp_Fr (fun b _ => b = B + 528) mm mm' := by
  have hA := yp_refS B
  have hE0 := hE
  obtain ⟨hE1, hE2, hE3, hE4, hE5, hn, hW, hW2⟩ := hE
  obtain ⟨g1, g2, g3, g4, g5, g6⟩ := hC
  have key : ∀ (m : Mem) v, m (B + 517) 19 = yp_N (yp_qw Q) → fX12_turnsNow_j29 (yp_SH B) (B + 517) v m = some (yp_bnd (yp_qw Q) v, m) := by
    intro m v hm
    simp (disch := omega) only [fX12_turnsNow_j29, fX12_turnsNow_j56, hA, hm, yp_bnd, yp_nS, Nat.reduceLeDiff, Nat.reduceLT, Nat.reduceAdd, Nat.reduceMul, Nat.reduceSub, Nat.reduceEqDiff, Nat.le_refl, Nat.lt_irrefl, Nat.zero_add, Nat.add_zero, yp_LT, yp_nA, yp_nM, yp_leN, yp_ltN, yp_eqN, lt1, yp_sb, yp_sb2, if_false, if_true]
    by_cases h1 : yp_N 0 ≤ v
    · simp only [h1, if_true]
      by_cases h2 : v < yp_N (yp_qw Q)
      · simp only [h2, if_true, Int32.not_le.mpr h2, if_false]
      · simp only [h2, if_false, Int32.not_lt.mp h2, if_true]
    · simp only [h1, if_false]
  rcases g6 with ⟨g6, g7, g8⟩ | ⟨g6, g7, g8, g9⟩
  · refine ⟨mm, ?_, yp_Fr.rf⟩
    simp (disch := omega) only [fX12_turnsNow, hA, g6, hk, Nat.reduceLeDiff, Nat.reduceLT, Nat.reduceAdd, Nat.reduceMul, Nat.reduceSub, Nat.reduceEqDiff, Nat.le_refl, Nat.lt_irrefl, Nat.zero_add, Nat.add_zero, yp_LT, yp_nA, yp_nM, yp_leN, yp_ltN, yp_eqN, lt1, yp_sb, yp_sb2, if_false, if_true]
    rw [key mm _ g3, g7, g8, yp_plain_val]
  · obtain ⟨m', e1, e2⟩ := yp_m_value hE0 g6 g8 g9 hk
    refine ⟨m', ?_, e2⟩
    simp (disch := omega) only [fX12_turnsNow, hA, g6, (show (yp_qn Q = 0) = False by simp only [eq_iff_iff, iff_false]; omega), e1, Nat.reduceLeDiff, Nat.reduceLT, Nat.reduceAdd, Nat.reduceMul, Nat.reduceSub, Nat.reduceEqDiff, Nat.le_refl, Nat.lt_irrefl, Nat.zero_add, Nat.add_zero, yp_LT, yp_nA, yp_nM, yp_leN, yp_ltN, yp_eqN, lt1, yp_sb, yp_sb2, if_false, if_true]
    rw [key m' _ ((e2 _ _ (by omega)).trans g3)]
end LAW

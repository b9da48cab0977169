def yp_cdG (t : Nat → Nat) (q i a : Nat) : Nat := 32 * a + (t (q + i) - 96)
def yp_cd (t : Nat → Nat) (q k : Nat) : Nat := yp_fo (yp_cdG t q) k 0
set_option maxHeartbeats 1000000 in
theorem yp_cd_s (t : Nat → Nat) (q k : Nat) : yp_cd t q (k + 1) = 32 * yp_cd t q k + (t (q + k) - 96) := rfl
set_option maxHeartbeats 1000000 in
theorem yp_cd_lt {t : Nat → Nat} {q k : Nat} (h : ∀ i, i < k → t (q + i) ≤ 122) : yp_cd t q k < 32 ^ k := by
  induction k with
  | zero => exact Nat.zero_lt_one
  | succ k ih =>
    have h1 := ih (fun i hi => h i (by omega))
    have h2 := h k (by omega)
    rw [yp_cd_s, Nat.pow_succ]
    omega
set_option maxHeartbeats 1000000 in
theorem yp_cd_inj {t u : Nat → Nat} {q r : Nat} : ∀ k l, (∀ i, i < k → 97 ≤ t (q + i) ∧ t (q + i) ≤ 122) → (∀ i, i < l → 97 ≤ u (r + i) ∧ u (r + i) ≤ 122) → yp_cd t q k = yp_cd u r l → k = l ∧ ∀ i, i < k → t (q + i) = u (r + i) := by
  intro k
  induction k with
  | zero =>
    intro l h1 h2 h3
    cases l with
    | zero => exact ⟨rfl, fun i hi => absurd hi (Nat.not_lt_zero i)⟩
    | succ l =>
      have := h2 l (by omega)
      rw [yp_cd_s] at h3
      have h4 : yp_cd t q 0 = 0 := rfl
      omega
  | succ k ih =>
    intro l h1 h2 h3
    have yp_b1 := h1 k (by omega)
    cases l with
    | zero =>
      rw [yp_cd_s] at h3
      have h4 : yp_cd u r 0 = 0 := rfl
      omega
    | succ l =>
      have b2 := h2 l (by omega)
      rw [yp_cd_s, yp_cd_s] at h3
      obtain ⟨h4, h5⟩ := ih l (fun i hi => h1 i (by omega)) (fun i hi => h2 i (by omega)) (by omega)
      subst h4
      refine ⟨rfl, fun i hi => ?_⟩
      by_cases e : i = k
      · rw [e]; omega
      · exact h5 i (by omega)
def yp_wC (t : Nat → Nat) (n p : Nat) : Nat := if yp_wE t n p - yp_sk t n p ≤ 6 then yp_cd t (yp_sk t n p) (yp_wE t n p - yp_sk t n p) else 0
set_option maxHeartbeats 1000000 in
theorem yp_shl5 {a b : Nat} (ha : a < 33554432) (h1 : 97 ≤ b) (h2 : b ≤ 122) : (yp_N a <<< (yp_N 5 &&& yp_N 31)) ||| (yp_N b - yp_N 96) = yp_N (32 * a + (b - 96)) := by
  rw [yp_nS (by omega)]
  apply Int32.toBitVec_inj.mp
  have e1 : (yp_N a <<< (yp_N 5 &&& yp_N 31)).toBitVec = (yp_N a).toBitVec <<< 5 := rfl
  rw [Int32.toBitVec_or, e1]
  show BitVec.ofNat 32 a <<< 5 ||| BitVec.ofNat 32 (b - 96) = BitVec.ofNat 32 (32 * a + (b - 96))
  apply BitVec.eq_of_toNat_eq
  rw [BitVec.toNat_or, BitVec.toNat_shiftLeft, BitVec.toNat_ofNat, BitVec.toNat_ofNat, BitVec.toNat_ofNat, Nat.mod_eq_of_lt (show a < 2 ^ 32 by omega), Nat.mod_eq_of_lt (show b - 96 < 2 ^ 32 by omega), Nat.mod_eq_of_lt (show 32 * a + (b - 96) < 2 ^ 32 by omega)]
  have e2 : a <<< 5 = a * 32 := Nat.shiftLeft_eq a 5
  rw [Nat.mod_eq_of_lt (show a <<< 5 < 2 ^ 32 by omega)]
  have e3 := Nat.shiftLeft_add_eq_or_of_lt (i := 5) (b := b - 96) (by omega) a
  rw [← e3]
  omega
section TAPEM
variable {B : Nat} {m : Mem} {t : Nat → Nat} {n p : Nat}
def yp_rAt (B : Nat) (m : Mem) (q : Nat) : Mem := up2 m (B + 517) 4 (yp_N q)
def yp_RT (B : Nat) (m : Mem) (t : Nat → Nat) (n p : Nat) : Prop := (m (B + 517) 3 = yp_N n ∧ m (B + 517) 4 = yp_N p ∧ ∀ k, k < n → m (B + 519) k = yp_N (t k)) ∧ n ≤ 600 ∧ p ≤ n ∧ ∀ k, t k < 256
set_option maxHeartbeats 1000000 in
theorem yp_RT.at (h : yp_RT B m t n p) {q : Nat} (hq : q ≤ n) : yp_RT B (yp_rAt B m q) t n q := by
  obtain ⟨⟨h1, h2, h3⟩, h4, h5, h6⟩ := h
  refine ⟨⟨?_, yp_up2_s _ _ _ _, fun k hk => ?_⟩, h4, hq, h6⟩
  · unfold yp_rAt; rw [yp_up2_n _ _ (by omega)]; exact h1
  · unfold yp_rAt; rw [yp_up2_n _ _ (by omega)]; exact h3 k hk
set_option maxHeartbeats 1000000 in
theorem yp_RT.fr {m' : Mem} (h : yp_RT B m t n p) (hf : ∀ a j, (a = B + 517 ∧ (j = 3 ∨ j = 4)) ∨ a = B + 519 → m' a j = m a j) : yp_RT B m' t n p :=
  ⟨⟨(hf _ _ (by omega)).trans h.1.1, (hf _ _ (by omega)).trans h.1.2.1, fun k hk => (hf _ _ (by omega)).trans (h.1.2.2 k hk)⟩, h.2⟩
set_option maxHeartbeats 1000000 in
theorem yp_rAt2 (B : Nat) (m : Mem) (p q : Nat) : yp_rAt B (yp_rAt B m p) q = yp_rAt B m q := yp_up2_2 _ _ _ _ _
set_option maxHeartbeats 1000000 in
theorem yp_rAt_n {a j : Nat} (q : Nat) (h : ¬ (a = B + 517 ∧ j = 4)) : yp_rAt B m q a j = m a j := yp_up2_n _ _ (by omega)
set_option maxHeartbeats 1000000 in
theorem yp_rAt_id (h : yp_RT B m t n p) : yp_rAt B m p = m := by unfold yp_rAt; rw [← h.1.2.1, yp_up2_id]
set_option maxHeartbeats 1000000 in
theorem yp_m_here (h : yp_RT B m t n p) : fX12_here (yp_SH B) (B + 517) m = some (if yp_sk t n p < n then yp_N (t (yp_sk t n p)) else yp_N 0, yp_rAt B m (yp_sk t n p)) := by
  have hM := yp_mS B
  have hT := yp_refT B
  have hn := h.2.1
  have hp := h.2.2.1
  have e1 := yp_adv (step := fun st : Mem => fX12_here_b0 (yp_SH B) (B + 517) st) (m := m) (P := yp_bl t) (B + 517) 4 n p hp (by omega) (fun q h1 h2 h3 => by
    have hq := h.at (q := q) (by omega)
    unfold yp_rAt at hq
    obtain ⟨⟨q1, q2, q3⟩, q4, q5, q6⟩ := hq
    have q7 := q3 q h2
    have h3 := yp_bl1.mp h3
    rw [h3] at q7
    simp (disch := omega) only [fX12_here_b0, hM, hT, q1, q2, q7, yp_up2_2, Nat.reduceAdd, Nat.reduceMul, Nat.reduceSub, Nat.zero_add, Nat.add_zero, yp_LT, yp_nA, yp_nM, yp_ltF, yp_ltT, yp_leF, yp_leT, yp_eqF, eq_self, yp_eqM, yp_lt1N, yp_sbN, yp_sb2N, ↓reduceIte, ↓yp_iP11, ↓yp_iP12, ↓yp_m0P]) (fun q h1 h2 h3 => by
    have hq := h.at (q := q) (by omega)
    unfold yp_rAt at hq
    obtain ⟨⟨q1, q2, q3⟩, q4, q5, q6⟩ := hq
    by_cases e : q = n
    · subst e
      simp (disch := omega) only [fX12_here_b0, hM, hT, q1, q2, Nat.reduceAdd, Nat.reduceMul, Nat.reduceSub, Nat.zero_add, Nat.add_zero, yp_LT, yp_nA, yp_nM, yp_ltF, yp_ltT, yp_leF, yp_leT, yp_eqF, eq_self, yp_eqM, yp_lt1N, yp_sbN, yp_sb2N, ↓reduceIte, ↓yp_iP11, ↓yp_iP12, ↓yp_m0P]
    · have q7 := q3 q (by omega)
      have h3 := yp_bl0.mp (h3 (by omega))
      have q8 := q6 q
      simp (disch := omega) only [fX12_here_b0, hM, hT, q1, q2, q7, Nat.reduceAdd, Nat.reduceMul, Nat.reduceSub, Nat.zero_add, Nat.add_zero, yp_LT, yp_nA, yp_nM, yp_ltF, yp_ltT, yp_leF, yp_leT, yp_eqF, eq_self, yp_eqM, yp_lt1N, yp_sbN, yp_sb2N, ↓reduceIte, ↓yp_iP11, ↓yp_iP12, ↓yp_m0P]) h.1.2.1
  have e1 : loopN (fun st : Mem => fX12_here_b0 (yp_SH B) (B + 517) st) FU m = some (yp_rAt B m (yp_sk t n p)) := e1
  have hl := yp_sk_le (t := t) hp
  obtain ⟨⟨q1, q2, q3⟩, q4, q5, q6⟩ := h.at hl
  by_cases e : yp_sk t n p < n
  · have q7 := q3 _ e
    rw [if_pos e]
    simp (disch := omega) only [fX12_here_j62, fX12_here_j38, fX12_here, e1, hM, hT, q1, q2, q7, Nat.reduceAdd, Nat.reduceMul, Nat.reduceSub, Nat.zero_add, Nat.add_zero, yp_LT, yp_nA, yp_nM, yp_ltF, yp_ltT, yp_leF, yp_leT, yp_eqF, eq_self, yp_eqM, yp_lt1N, yp_sbN, yp_sb2N, ↓reduceIte, ↓yp_iP11, ↓yp_iP12, ↓yp_m0P]
  · rw [if_neg e]
    simp (disch := omega) only [fX12_here_j62, fX12_here_j38, fX12_here, e1, hM, hT, q1, q2, Nat.reduceAdd, Nat.reduceMul, Nat.reduceSub, Nat.zero_add, Nat.add_zero, yp_LT, yp_nA, yp_nM, yp_ltF, yp_ltT, yp_leF, yp_leT, yp_eqF, eq_self, yp_eqM, yp_lt1N, yp_sbN, yp_sb2N, ↓reduceIte, ↓yp_iP11, ↓yp_iP12, ↓yp_m0P]
set_option maxHeartbeats 1000000 in
theorem yp_m_more (h : yp_RT B m t n p) : fX12_isMore (yp_SH B) (B + 517) m = some (if yp_sk t n p < n then yp_N 1 else yp_N 0, yp_rAt B m (yp_sk t n p)) := by
  have hM := yp_mS B
  have e1 := yp_m_here h
  have hl := yp_sk_le (t := t) h.2.2.1
  have hn := h.2.1
  obtain ⟨⟨q1, q2, q3⟩, q4, q5, q6⟩ := h.at hl
  by_cases e : yp_sk t n p < n
  · rw [if_pos e] at e1 ⊢
    simp (disch := omega) only [fX12_isMore_j21, fX12_isMore, e1, hM, q1, q2, yp_ck1, Nat.reduceAdd, Nat.reduceMul, Nat.reduceSub, Nat.zero_add, Nat.add_zero, yp_LT, yp_nA, yp_nM, yp_ltF, yp_ltT, yp_leF, yp_leT, yp_eqF, eq_self, yp_eqM, yp_lt1N, yp_sbN, yp_sb2N, ↓reduceIte, ↓yp_iP11, ↓yp_iP12, ↓yp_m0P]
  · rw [if_neg e] at e1 ⊢
    simp (disch := omega) only [fX12_isMore_j21, fX12_isMore, e1, hM, q1, q2, yp_ck0, Nat.reduceAdd, Nat.reduceMul, Nat.reduceSub, Nat.zero_add, Nat.add_zero, yp_LT, yp_nA, yp_nM, yp_ltF, yp_ltT, yp_leF, yp_leT, yp_eqF, eq_self, yp_eqM, yp_lt1N, yp_sbN, yp_sb2N, ↓reduceIte, ↓yp_iP11, ↓yp_iP12, ↓yp_m0P]
set_option maxHeartbeats 1000000 in
theorem yp_m_fine1 (h : m (B + 517) 5 = -yp_N 1) : fX12_fine (yp_SH B) (B + 517) m = some (yp_N 1) := by
  have hM := yp_mS B
  simp (disch := omega) only [fX12_fine_j13, fX12_fine, hM, h, yp_ck1, Nat.reduceAdd, Nat.reduceMul, Nat.reduceSub, Nat.zero_add, Nat.add_zero, yp_LT, yp_nA, yp_nM, yp_ltF, yp_ltT, yp_leF, yp_leT, yp_eqF, eq_self, yp_eqM, yp_lt1N, yp_sbN, yp_sb2N, ↓reduceIte, ↓yp_iP11, ↓yp_iP12, ↓yp_m0P]
set_option maxHeartbeats 1000000 in
theorem yp_m_fine0 (h : ¬ m (B + 517) 5 = -yp_N 1) : fX12_fine (yp_SH B) (B + 517) m = some (yp_N 0) := by
  have hM := yp_mS B
  simp (disch := omega) only [fX12_fine_j13, fX12_fine, hM, h, yp_ck0, Nat.reduceAdd, Nat.reduceMul, Nat.reduceSub, Nat.zero_add, Nat.add_zero, yp_LT, yp_nA, yp_nM, yp_ltF, yp_ltT, yp_leF, yp_leT, yp_eqF, eq_self, yp_eqM, yp_lt1N, yp_sbN, yp_sb2N, ↓reduceIte, ↓yp_iP11, ↓yp_iP12, ↓yp_m0P]
def yp_rF (B : Nat) (m : Mem) (k x : Nat) : Mem := up2 (up2 m (B + 517) 5 (yp_N x)) (B + 517) 6 (yp_N k)
set_option maxHeartbeats 1000000 in
theorem yp_m_wrong1 (h : m (B + 517) 5 = -yp_N 1) (k x : Nat) : fX12_wrong (yp_SH B) (B + 517) (yp_N k) (yp_N x) m = some (yp_rF B m k x) := by
  have hM := yp_mS B
  simp (disch := omega) only [fX12_wrong, hM, h, Nat.reduceAdd, Nat.reduceMul, Nat.reduceSub, Nat.zero_add, Nat.add_zero, yp_LT, yp_nA, yp_nM, yp_ltF, yp_ltT, yp_leF, yp_leT, yp_eqF, eq_self, yp_eqM, yp_lt1N, yp_sbN, yp_sb2N, ↓reduceIte, ↓yp_iP11, ↓yp_iP12, ↓yp_m0P]
  rfl
set_option maxHeartbeats 1000000 in
theorem yp_m_wrong0 (h : ¬ m (B + 517) 5 = -yp_N 1) (k x : Int32) : fX12_wrong (yp_SH B) (B + 517) k x m = some m := by
  have hM := yp_mS B
  simp (disch := omega) only [fX12_wrong, hM, h, Nat.reduceAdd, Nat.reduceMul, Nat.reduceSub, Nat.zero_add, Nat.add_zero, yp_LT, yp_nA, yp_nM, yp_ltF, yp_ltT, yp_leF, yp_leT, yp_eqF, eq_self, yp_eqM, yp_lt1N, yp_sbN, yp_sb2N, ↓reduceIte, ↓yp_iP11, ↓yp_iP12, ↓yp_m0P]
set_option maxHeartbeats 1000000 in
theorem yp_rF_n {a j : Nat} (k x : Nat) (h : ¬ (a = B + 517 ∧ (j = 5 ∨ j = 6))) : yp_rF B m k x a j = m a j := by
  unfold yp_rF
  rw [yp_up2_n _ _ (by omega), yp_up2_n _ _ (by omega)]
set_option maxHeartbeats 1000000 in
theorem yp_rF_5 (B : Nat) (m : Mem) (k x : Nat) : yp_rF B m k x (B + 517) 5 = yp_N x ∧ yp_rF B m k x (B + 517) 6 = yp_N k := by
  unfold yp_rF
  exact ⟨by rw [yp_up2_n _ _ (by omega), yp_up2_s], yp_up2_s _ _ _ _⟩
set_option maxHeartbeats 1000000 in
theorem yp_rF_x {k x : Nat} (hx : x < 2147483648) : ¬ yp_rF B m k x (B + 517) 5 = -yp_N 1 := by
  rw [(yp_rF_5 B m k x).1, yp_eqM hx]
  exact fun h => h
set_option maxHeartbeats 1000000 in
theorem yp_RT.fl (h : yp_RT B m t n p) (k x : Nat) : yp_RT B (yp_rF B m k x) t n p := h.fr (fun a j q => yp_rF_n k x (by omega))
set_option maxHeartbeats 1000000 in
theorem yp_m_sign1 (h : yp_RT B m t n p) (hf : m (B + 517) 5 = -yp_N 1) (c : Nat) (hc : 1 ≤ c) (hc2 : c < 256) (e : yp_sk t n p < n ∧ t (yp_sk t n p) = c) : fX12_sign (yp_SH B) (B + 517) (yp_N c) m = some (yp_rAt B m (yp_sk t n p + 1)) := by
  have hM := yp_mS B
  have e1 := yp_m_here h
  have hq := h.at (yp_sk_le (t := t) h.2.2.1)
  have c3 := hq.1.2.1
  have f1 := yp_m_fine1 hf
  have f2 := yp_m_fine1 (B := B) (m := yp_rAt B m (yp_sk t n p)) ((yp_rAt_n _ (by omega)).trans hf)
  rw [if_pos e.1, e.2] at e1
  have q9 : up2 (yp_rAt B m (yp_sk t n p)) (B + 517) 4 (yp_N (yp_sk t n p + 1)) = yp_rAt B m (yp_sk t n p + 1) := yp_rAt2 _ _ _ _
  simp (disch := omega) only [fX12_sign_j41, fX12_sign_j24, fX12_sign, e1, hM, c3, f1, f2, q9, Nat.reduceAdd, Nat.reduceMul, Nat.reduceSub, Nat.zero_add, Nat.add_zero, yp_LT, yp_nA, yp_nM, yp_ltF, yp_ltT, yp_leF, yp_leT, yp_eqF, eq_self, yp_eqM, yp_lt1N, yp_sbN, yp_sb2N, ↓reduceIte, ↓yp_iP11, ↓yp_iP12, ↓yp_m0P]
set_option maxHeartbeats 1000000 in
theorem yp_m_sign0 (h : yp_RT B m t n p) (hf : m (B + 517) 5 = -yp_N 1) (c : Nat) (hc : 1 ≤ c) (hc2 : c < 256) (e : ¬ (yp_sk t n p < n ∧ t (yp_sk t n p) = c)) : fX12_sign (yp_SH B) (B + 517) (yp_N c) m = some (yp_rF B (yp_rAt B m (yp_sk t n p)) 1 (yp_sk t n p)) := by
  have hM := yp_mS B
  have e1 := yp_m_here h
  have hn := h.2.1
  have hl := yp_sk_le (t := t) h.2.2.1
  have hq := h.at hl
  have c3 := hq.1.2.1
  have c6 := h.2.2.2 (yp_sk t n p)
  have f1 := yp_m_fine1 hf
  have f2 := yp_m_wrong1 (B := B) (m := yp_rAt B m (yp_sk t n p)) ((yp_rAt_n _ (by omega)).trans hf) 1 (yp_sk t n p)
  have f3 := yp_m_fine0 (yp_rF_x (B := B) (m := yp_rAt B m (yp_sk t n p)) (k := 1) (x := yp_sk t n p) (by omega))
  by_cases e2 : yp_sk t n p < n
  · have e3 : t (yp_sk t n p) ≠ c := fun q => e ⟨e2, q⟩
    rw [if_pos e2] at e1
    simp (disch := omega) only [fX12_sign_j41, fX12_sign_j24, fX12_sign, e1, hM, c3, f1, f2, f3, Nat.reduceAdd, Nat.reduceMul, Nat.reduceSub, Nat.zero_add, Nat.add_zero, yp_LT, yp_nA, yp_nM, yp_ltF, yp_ltT, yp_leF, yp_leT, yp_eqF, eq_self, yp_eqM, yp_lt1N, yp_sbN, yp_sb2N, ↓reduceIte, ↓yp_iP11, ↓yp_iP12, ↓yp_m0P]
  · rw [if_neg e2] at e1
    simp (disch := omega) only [fX12_sign_j41, fX12_sign_j24, fX12_sign, e1, hM, c3, f1, f2, f3, Nat.reduceAdd, Nat.reduceMul, Nat.reduceSub, Nat.zero_add, Nat.add_zero, yp_LT, yp_nA, yp_nM, yp_ltF, yp_ltT, yp_leF, yp_leT, yp_eqF, eq_self, yp_eqM, yp_lt1N, yp_sbN, yp_sb2N, ↓reduceIte, ↓yp_iP11, ↓yp_iP12, ↓yp_m0P]
set_option maxHeartbeats 1000000 in
theorem yp_m_signX (hf : ¬ m (B + 517) 5 = -yp_N 1) (c : Int32) : fX12_sign (yp_SH B) (B + 517) c m = some m := by
  have hM := yp_mS B
  have f1 := yp_m_fine0 hf
  simp (disch := omega) only [fX12_sign_j41, fX12_sign_j24, fX12_sign, hM, f1, Nat.reduceAdd, Nat.reduceMul, Nat.reduceSub, Nat.zero_add, Nat.add_zero, yp_LT, yp_nA, yp_nM, yp_ltF, yp_ltT, yp_leF, yp_leT, yp_eqF, eq_self, yp_eqM, yp_lt1N, yp_sbN, yp_sb2N, ↓reduceIte, ↓yp_iP11, ↓yp_iP12, ↓yp_m0P]
set_option maxHeartbeats 1000000 in
theorem yp_isDm (k : Nat) (hk : k < 2147483648) : fX12_isDigit (yp_N k) = some (if 48 ≤ k ∧ k ≤ 57 then yp_N 1 else yp_N 0) := by
  by_cases h1 : k < 48
  · rw [if_neg (by omega)]
    simp (disch := omega) only [fX12_isDigit_j17, fX12_isDigit_j16, fX12_isDigit, yp_ck0, yp_ck1, Nat.reduceAdd, Nat.reduceMul, Nat.reduceSub, Nat.zero_add, Nat.add_zero, yp_LT, yp_nA, yp_nM, yp_ltF, yp_ltT, yp_leF, yp_leT, yp_eqF, eq_self, yp_eqM, yp_lt1N, yp_sbN, yp_sb2N, ↓reduceIte, ↓yp_iP11, ↓yp_iP12, ↓yp_m0P]
  · by_cases h2 : k ≤ 57
    · rw [if_pos (by omega)]
      simp (disch := omega) only [fX12_isDigit_j17, fX12_isDigit_j16, fX12_isDigit, yp_ck0, yp_ck1, Nat.reduceAdd, Nat.reduceMul, Nat.reduceSub, Nat.zero_add, Nat.add_zero, yp_LT, yp_nA, yp_nM, yp_ltF, yp_ltT, yp_leF, yp_leT, yp_eqF, eq_self, yp_eqM, yp_lt1N, yp_sbN, yp_sb2N, ↓reduceIte, ↓yp_iP11, ↓yp_iP12, ↓yp_m0P]
    · rw [if_neg (by omega)]
      simp (disch := omega) only [fX12_isDigit_j17, fX12_isDigit_j16, fX12_isDigit, yp_ck0, yp_ck1, Nat.reduceAdd, Nat.reduceMul, Nat.reduceSub, Nat.zero_add, Nat.add_zero, yp_LT, yp_nA, yp_nM, yp_ltF, yp_ltT, yp_leF, yp_leT, yp_eqF, eq_self, yp_eqM, yp_lt1N, yp_sbN, yp_sb2N, ↓reduceIte, ↓yp_iP11, ↓yp_iP12, ↓yp_m0P]
set_option maxHeartbeats 1000000 in
theorem yp_isSm (k : Nat) (hk : k < 2147483648) : fX12_isSmall (yp_N k) = some (if 97 ≤ k ∧ k ≤ 122 then yp_N 1 else yp_N 0) := by
  by_cases h1 : k < 97
  · rw [if_neg (by omega)]
    simp (disch := omega) only [fX12_isSmall_j17, fX12_isSmall_j16, fX12_isSmall, yp_ck0, yp_ck1, Nat.reduceAdd, Nat.reduceMul, Nat.reduceSub, Nat.zero_add, Nat.add_zero, yp_LT, yp_nA, yp_nM, yp_ltF, yp_ltT, yp_leF, yp_leT, yp_eqF, eq_self, yp_eqM, yp_lt1N, yp_sbN, yp_sb2N, ↓reduceIte, ↓yp_iP11, ↓yp_iP12, ↓yp_m0P]
  · by_cases h2 : k ≤ 122
    · rw [if_pos (by omega)]
      simp (disch := omega) only [fX12_isSmall_j17, fX12_isSmall_j16, fX12_isSmall, yp_ck0, yp_ck1, Nat.reduceAdd, Nat.reduceMul, Nat.reduceSub, Nat.zero_add, Nat.add_zero, yp_LT, yp_nA, yp_nM, yp_ltF, yp_ltT, yp_leF, yp_leT, yp_eqF, eq_self, yp_eqM, yp_lt1N, yp_sbN, yp_sb2N, ↓reduceIte, ↓yp_iP11, ↓yp_iP12, ↓yp_m0P]
    · rw [if_neg (by omega)]
      simp (disch := omega) only [fX12_isSmall_j17, fX12_isSmall_j16, fX12_isSmall, yp_ck0, yp_ck1, Nat.reduceAdd, Nat.reduceMul, Nat.reduceSub, Nat.zero_add, Nat.add_zero, yp_LT, yp_nA, yp_nM, yp_ltF, yp_ltT, yp_leF, yp_leT, yp_eqF, eq_self, yp_eqM, yp_lt1N, yp_sbN, yp_sb2N, ↓reduceIte, ↓yp_iP11, ↓yp_iP12, ↓yp_m0P]
def yp_vJ (v V : Nat) : Prop := (v = V ∧ V < 100000) ∨ (v = 10000 ∧ 10000 ≤ V)
set_option maxHeartbeats 1000000 in
theorem yp_m_digits (h : yp_RT B m t n p) (x1 x2 : Int32) (q : Nat) : ∃ v, loopN (fun st : Int32 × Mem => fX12_readNumber_b41 (yp_SH B) (B + 517) x1 x2 (yp_N q) st.1 st.2) FU (yp_N 0, m) = some (yp_N v, yp_rAt B m (yp_run (yp_dg t) n p)) ∧ yp_vJ v (yp_vl t p (yp_run (yp_dg t) n p - p)) := by
  have hM := yp_mS B
  have hT := yp_refT B
  have hn := h.2.1
  have hp := h.2.2.1
  have g1 := yp_run_ge (yp_dg t) n p
  have g2 := yp_run_le (P := yp_dg t) hp
  obtain ⟨x, e1, v, e2, e3⟩ := yp_lpI (step := fun st : Int32 × Mem => fX12_readNumber_b41 (yp_SH B) (B + 517) x1 x2 (yp_N q) st.1 st.2) (fun k st => ∃ v, st = (yp_N v, yp_rAt B m (p + k)) ∧ yp_vJ v (yp_vl t p k)) (fun x => ∃ v, x = (yp_N v, yp_rAt B m (yp_run (yp_dg t) n p)) ∧ yp_vJ v (yp_vl t p (yp_run (yp_dg t) n p - p))) (yp_run (yp_dg t) n p - p) (fun k st hk hJ => by
    obtain ⟨v, rfl, hv⟩ := hJ
    obtain ⟨⟨c2, c3, cb⟩, _, _, c6⟩ := h.at (q := p + k) (by omega)
    by_cases e : k = yp_run (yp_dg t) n p - p
    · refine .inr ⟨(yp_N v, yp_rAt B m (p + k)), ?_, v, by rw [show p + k = yp_run (yp_dg t) n p by omega], by rw [← e]; exact hv⟩
      by_cases e3 : p + k < n
      · have q7 := cb _ e3
        have q8 := c6 (p + k)
        have q9 := yp_isDm (t (p + k)) (by omega)
        have e4 : yp_dg t (p + k) = false := by
          rw [show p + k = yp_run (yp_dg t) n p by omega]
          exact yp_run_end (by omega)
        rw [if_neg (yp_dg0.mp e4)] at q9
        simp (disch := omega) only [fX12_readNumber_b41, hM, hT, c2, c3, q7, q9, Nat.reduceAdd, Nat.reduceMul, Nat.reduceSub, Nat.zero_add, Nat.add_zero, yp_LT, yp_nA, yp_nM, yp_ltF, yp_ltT, yp_leF, yp_leT, yp_eqF, eq_self, yp_eqM, yp_lt1N, yp_sbN, yp_sb2N, ↓reduceIte, ↓yp_iP11, ↓yp_iP12, ↓yp_m0P]
      · simp (disch := omega) only [fX12_readNumber_b41, hM, hT, c2, c3, Nat.reduceAdd, Nat.reduceMul, Nat.reduceSub, Nat.zero_add, Nat.add_zero, yp_LT, yp_nA, yp_nM, yp_ltF, yp_ltT, yp_leF, yp_leT, yp_eqF, eq_self, yp_eqM, yp_lt1N, yp_sbN, yp_sb2N, ↓reduceIte, ↓yp_iP11, ↓yp_iP12, ↓yp_m0P]
    · have e3 : p + k < n := by omega
      have q7 := cb _ e3
      have q8 := c6 (p + k)
      have q9 := yp_isDm (t (p + k)) (by omega)
      have e4 := yp_dg1.mp (yp_run_in (P := yp_dg t) (n := n) (p := p) (i := p + k) (by omega) (by omega))
      rw [if_pos e4] at q9
      have q10 : up2 (yp_rAt B m (p + k)) (B + 517) 4 (yp_N (p + k + 1)) = yp_rAt B m (p + k + 1) := yp_rAt2 _ _ _ _
      have hs := yp_vl_s t p k
      unfold yp_vJ at hv
      by_cases e5 : v ≤ 9999
      · have q11 : yp_N (10 * v + t (p + k)) - yp_N 48 = yp_N (10 * v + (t (p + k) - 48)) := by
          rw [yp_nS (by omega)]
          exact congrArg yp_N (by omega)
        refine .inl ⟨by omega, (yp_N (10 * v + (t (p + k) - 48)), yp_rAt B m (p + k + 1)), ?_, _, rfl, ?_⟩
        · simp (disch := omega) only [fX12_readNumber_b41, fX12_readNumber_j99, hM, hT, c2, c3, q7, q9, q10, q11, Nat.reduceAdd, Nat.reduceMul, Nat.reduceSub, Nat.zero_add, Nat.add_zero, yp_LT, yp_nA, yp_nM, yp_ltF, yp_ltT, yp_leF, yp_leT, yp_eqF, eq_self, yp_eqM, yp_lt1N, yp_sbN, yp_sb2N, ↓reduceIte, ↓yp_iP11, ↓yp_iP12, ↓yp_m0P]
        · unfold yp_vJ; omega
      · refine .inl ⟨by omega, (yp_N 10000, yp_rAt B m (p + k + 1)), ?_, _, rfl, ?_⟩
        · simp (disch := omega) only [fX12_readNumber_b41, fX12_readNumber_j99, hM, hT, c2, c3, q7, q9, q10, Nat.reduceAdd, Nat.reduceMul, Nat.reduceSub, Nat.zero_add, Nat.add_zero, yp_LT, yp_nA, yp_nM, yp_ltF, yp_ltT, yp_leF, yp_leT, yp_eqF, eq_self, yp_eqM, yp_lt1N, yp_sbN, yp_sb2N, ↓reduceIte, ↓yp_iP11, ↓yp_iP12, ↓yp_m0P]
        · unfold yp_vJ; omega) (show yp_run (yp_dg t) n p - p < FU by rw [yp_FUe]; omega) (s0 := (yp_N 0, m)) ⟨0, by rw [Nat.add_zero, yp_rAt_id h], .inl ⟨rfl, (by decide : 0 < 100000)⟩⟩
  exact ⟨v, by rw [e1, e2], e3⟩
set_option maxHeartbeats 1000000 in
theorem yp_m_number (h : yp_RT B m t n p) (hf : m (B + 517) 5 = -yp_N 1) (lo hi : Nat) (x2 : Int32) (hx : x2.toInt = (hi : Int) - 1) (hlo : lo ≤ 1000) (hhi : hi ≤ 1000) : fX12_readNumber (yp_SH B) (B + 517) (yp_N lo) x2 m = some (if yp_nK t n lo hi p = 0 then yp_N (yp_nV t n p) else yp_N 0, if yp_nK t n lo hi p = 0 then yp_rAt B m (yp_nE t n p) else yp_rF B (yp_rAt B m (yp_nE t n p)) (yp_nK t n lo hi p) (yp_sk t n p)) := by
  have hM := yp_mS B
  have e1 := yp_m_here h
  have hl := yp_sk_le (t := t) h.2.2.1
  have hq := h.at hl
  have hn := h.2.1
  have c3 := hq.1.2.1
  have c6 := h.2.2.2 (yp_sk t n p)
  have g1 := yp_nE_ge t n p
  have g2 := yp_nE_le (t := t) h.2.2.1
  have f0 := yp_m_fine1 hf
  have hE := yp_nE_iff (t := t) h.2.2.1
  unfold yp_nK
  by_cases k1 : yp_nE t n p = yp_sk t n p
  · rw [if_pos k1, if_neg (by decide), if_neg (by decide)]
    have f1 := yp_m_wrong1 (B := B) (m := yp_rAt B m (yp_sk t n p)) ((yp_rAt_n _ (by omega)).trans hf) 1 (yp_sk t n p)
    rw [k1]
    have k2 := hE.mp k1
    by_cases e2 : yp_sk t n p < n
    · rw [if_pos e2] at e1
      have q9 := yp_isDm (t (yp_sk t n p)) (by omega)
      rw [if_neg (fun q => k2 ⟨e2, yp_dg1.mpr q⟩)] at q9
      simp (disch := omega) only [fX12_readNumber_j126, fX12_readNumber_j114, fX12_readNumber_j99, fX12_readNumber, hM, e1, c3, f0, f1, q9, Nat.reduceAdd, Nat.reduceMul, Nat.reduceSub, Nat.zero_add, Nat.add_zero, yp_LT, yp_nA, yp_nM, yp_ltF, yp_ltT, yp_leF, yp_leT, yp_eqF, eq_self, yp_eqM, yp_lt1N, yp_sbN, yp_sb2N, ↓reduceIte, ↓yp_iP11, ↓yp_iP12, ↓yp_m0P]
    · rw [if_neg e2] at e1
      have q9 := yp_isDm 0 (by omega)
      rw [if_neg (by omega)] at q9
      simp (disch := omega) only [fX12_readNumber_j126, fX12_readNumber_j114, fX12_readNumber_j99, fX12_readNumber, hM, e1, c3, f0, f1, q9, Nat.reduceAdd, Nat.reduceMul, Nat.reduceSub, Nat.zero_add, Nat.add_zero, yp_LT, yp_nA, yp_nM, yp_ltF, yp_ltT, yp_leF, yp_leT, yp_eqF, eq_self, yp_eqM, yp_lt1N, yp_sbN, yp_sb2N, ↓reduceIte, ↓yp_iP11, ↓yp_iP12, ↓yp_m0P]
  · have k2 : yp_sk t n p < n ∧ yp_dg t (yp_sk t n p) = true := Decidable.byContradiction (fun q => k1 (hE.mpr q))
    rw [if_neg k1]
    rw [if_pos k2.1] at e1
    have q9 := yp_isDm (t (yp_sk t n p)) (by omega)
    rw [if_pos (yp_dg1.mp k2.2)] at q9
    obtain ⟨v, e2, e3⟩ := yp_m_digits hq (yp_N lo) x2 (yp_sk t n p)
    rw [yp_rAt2] at e2
    have e2 : loopN (fun st : Int32 × Mem => fX12_readNumber_b41 (yp_SH B) (B + 517) (yp_N lo) x2 (yp_N (yp_sk t n p)) st.1 st.2) FU (yp_N 0, yp_rAt B m (yp_sk t n p)) = some (yp_N v, yp_rAt B m (yp_nE t n p)) := e2
    have e3 : yp_vJ v (yp_nV t n p) := e3
    unfold yp_vJ at e3
    have f2 := yp_m_wrong1 (B := B) (m := yp_rAt B m (yp_nE t n p)) ((yp_rAt_n _ (by omega)).trans hf) 2 (yp_sk t n p)
    by_cases k3 : lo ≤ yp_nV t n p ∧ yp_nV t n p < hi
    · have k4 : v = yp_nV t n p := by omega
      have k5 : (yp_N (yp_nV t n p) ≤ x2) = True := eq_true (by rw [yp_leTi, yp_tiN (by omega), hx]; omega)
      rw [if_pos k3, if_pos rfl, if_pos rfl]
      rw [k4] at e2
      simp (disch := omega) only [fX12_readNumber_j126, fX12_readNumber_j114, fX12_readNumber_j99, fX12_readNumber, hM, e1, e2, c3, f0, q9, k5, Nat.reduceAdd, Nat.reduceMul, Nat.reduceSub, Nat.zero_add, Nat.add_zero, yp_LT, yp_nA, yp_nM, yp_ltF, yp_ltT, yp_leF, yp_leT, yp_eqF, eq_self, yp_eqM, yp_lt1N, yp_sbN, yp_sb2N, ↓reduceIte, ↓yp_iP11, ↓yp_iP12, ↓yp_m0P]
    · rw [if_neg k3, if_neg (by decide), if_neg (by decide)]
      by_cases k4 : v < lo
      · simp (disch := omega) only [fX12_readNumber_j126, fX12_readNumber_j114, fX12_readNumber_j99, fX12_readNumber, hM, e1, e2, c3, f0, q9, f2, Nat.reduceAdd, Nat.reduceMul, Nat.reduceSub, Nat.zero_add, Nat.add_zero, yp_LT, yp_nA, yp_nM, yp_ltF, yp_ltT, yp_leF, yp_leT, yp_eqF, eq_self, yp_eqM, yp_lt1N, yp_sbN, yp_sb2N, ↓reduceIte, ↓yp_iP11, ↓yp_iP12, ↓yp_m0P]
      · have k5 : (yp_N v ≤ x2) = False := eq_false (by
          rw [yp_leTi, yp_tiN (by omega), hx]
          omega)
        simp (disch := omega) only [fX12_readNumber_j126, fX12_readNumber_j114, fX12_readNumber_j99, fX12_readNumber, hM, e1, e2, c3, f0, q9, k5, f2, Nat.reduceAdd, Nat.reduceMul, Nat.reduceSub, Nat.zero_add, Nat.add_zero, yp_LT, yp_nA, yp_nM, yp_ltF, yp_ltT, yp_leF, yp_leT, yp_eqF, eq_self, yp_eqM, yp_lt1N, yp_sbN, yp_sb2N, ↓reduceIte, ↓yp_iP11, ↓yp_iP12, ↓yp_m0P]
set_option maxHeartbeats 1000000 in
theorem yp_m_numX (hf : ¬ m (B + 517) 5 = -yp_N 1) (x1 x2 : Int32) : fX12_readNumber (yp_SH B) (B + 517) x1 x2 m = some (yp_N 0, m) := by
  have hM := yp_mS B
  have f1 := yp_m_fine0 hf
  simp (disch := omega) only [fX12_readNumber_j126, fX12_readNumber_j114, fX12_readNumber_j99, fX12_readNumber, hM, f1, Nat.reduceAdd, Nat.reduceMul, Nat.reduceSub, Nat.zero_add, Nat.add_zero, yp_LT, yp_nA, yp_nM, yp_ltF, yp_ltT, yp_leF, yp_leT, yp_eqF, eq_self, yp_eqM, yp_lt1N, yp_sbN, yp_sb2N, ↓reduceIte, ↓yp_iP11, ↓yp_iP12, ↓yp_m0P]
set_option maxHeartbeats 1000000 in
theorem yp_m_pass (h : yp_RT B m t n p) : fX12_pass (yp_SH B) (B + 517) m = some (yp_rAt B m (yp_run (yp_sl t) n p)) := by
  have hM := yp_mS B
  have hT := yp_refT B
  have hn := h.2.1
  have hp := h.2.2.1
  have e1 := yp_adv (step := fun st : Mem => fX12_pass_b0 (yp_SH B) (B + 517) st) (m := m) (P := yp_sl t) (B + 517) 4 n p hp (by omega) (fun q h1 h2 h3 => by
    have hq := h.at (q := q) (by omega)
    unfold yp_rAt at hq
    obtain ⟨⟨q1, q2, q3⟩, q4, q5, q6⟩ := hq
    have q7 := q3 q h2
    have q8 := q6 q
    have q9 := yp_isSm (t q) (by omega)
    rw [if_pos (yp_sl1.mp h3)] at q9
    simp (disch := omega) only [fX12_pass_b0, hM, hT, q1, q2, q7, q9, yp_up2_2, Nat.reduceAdd, Nat.reduceMul, Nat.reduceSub, Nat.zero_add, Nat.add_zero, yp_LT, yp_nA, yp_nM, yp_ltF, yp_ltT, yp_leF, yp_leT, yp_eqF, eq_self, yp_eqM, yp_lt1N, yp_sbN, yp_sb2N, ↓reduceIte, ↓yp_iP11, ↓yp_iP12, ↓yp_m0P]) (fun q h1 h2 h3 => by
    have hq := h.at (q := q) (by omega)
    unfold yp_rAt at hq
    obtain ⟨⟨q1, q2, q3⟩, q4, q5, q6⟩ := hq
    by_cases e : q = n
    · subst e
      simp (disch := omega) only [fX12_pass_b0, hM, hT, q1, q2, Nat.reduceAdd, Nat.reduceMul, Nat.reduceSub, Nat.zero_add, Nat.add_zero, yp_LT, yp_nA, yp_nM, yp_ltF, yp_ltT, yp_leF, yp_leT, yp_eqF, eq_self, yp_eqM, yp_lt1N, yp_sbN, yp_sb2N, ↓reduceIte, ↓yp_iP11, ↓yp_iP12, ↓yp_m0P]
    · have q7 := q3 q (by omega)
      have q8 := q6 q
      have q9 := yp_isSm (t q) (by omega)
      rw [if_neg (yp_sl0.mp (h3 (by omega)))] at q9
      simp (disch := omega) only [fX12_pass_b0, hM, hT, q1, q2, q7, q9, Nat.reduceAdd, Nat.reduceMul, Nat.reduceSub, Nat.zero_add, Nat.add_zero, yp_LT, yp_nA, yp_nM, yp_ltF, yp_ltT, yp_leF, yp_leT, yp_eqF, eq_self, yp_eqM, yp_lt1N, yp_sbN, yp_sb2N, ↓reduceIte, ↓yp_iP11, ↓yp_iP12, ↓yp_m0P]) h.1.2.1
  simp (disch := omega) only [fX12_pass_j39, fX12_pass, e1, Nat.reduceAdd, Nat.reduceMul, Nat.reduceSub, Nat.zero_add, Nat.add_zero, yp_LT, yp_nA, yp_nM, yp_ltF, yp_ltT, yp_leF, yp_leT, yp_eqF, eq_self, yp_eqM, yp_lt1N, yp_sbN, yp_sb2N, ↓reduceIte, ↓yp_iP11, ↓yp_iP12, ↓yp_m0P]
  rfl
set_option maxHeartbeats 1000000 in
theorem yp_m_word (h : yp_RT B m t n p) : fX12_word (yp_SH B) (B + 517) m = some (yp_N (yp_wC t n p), yp_rAt B m (yp_sk t n p)) := by
  have hM := yp_mS B
  have hT := yp_refT B
  have e0 : ∃ v, fX12_here (yp_SH B) (B + 517) m = some (v, yp_rAt B m (yp_sk t n p)) := ⟨_, yp_m_here h⟩
  obtain ⟨v0, e0⟩ := e0
  have hl := yp_sk_le (t := t) h.2.2.1
  have hn := h.2.1
  have hq := h.at hl
  have g1 := yp_wE_ge t n p
  have g2 := yp_wE_le (t := t) h.2.2.1
  obtain ⟨⟨c2, c3, cb⟩, _, _, c6⟩ := hq
  have in1 : ∀ i, i < yp_wE t n p - yp_sk t n p → 97 ≤ t (yp_sk t n p + i) ∧ t (yp_sk t n p + i) ≤ 122 := fun i hi => yp_sl1.mp (yp_run_in (P := yp_sl t) (n := n) (p := yp_sk t n p) (by omega) (show yp_sk t n p + i < yp_wE t n p by omega))
  obtain ⟨x, e1, e2⟩ := yp_lpI (step := fun st : Int32 × Int32 × Int32 => fX12_word_b14 (yp_SH B) (B + 517) st.1 st.2.1 st.2.2 (yp_rAt B m (yp_sk t n p))) (fun k st => st = (yp_N (if k ≤ 6 then yp_cd t (yp_sk t n p) k else 0), yp_N k, yp_N (yp_sk t n p + k))) (fun x => x = (yp_N (if yp_wE t n p - yp_sk t n p ≤ 6 then yp_cd t (yp_sk t n p) (yp_wE t n p - yp_sk t n p) else 0), yp_N (yp_wE t n p - yp_sk t n p))) (yp_wE t n p - yp_sk t n p) (fun k st hk hJ => by
    subst hJ
    by_cases e : k = yp_wE t n p - yp_sk t n p
    · refine .inr ⟨(yp_N (if k ≤ 6 then yp_cd t (yp_sk t n p) k else 0), yp_N k), ?_, by rw [e]⟩
      by_cases e3 : yp_sk t n p + k < n
      · have q7 := cb _ e3
        have q8 := c6 (yp_sk t n p + k)
        have q9 := yp_isSm (t (yp_sk t n p + k)) (by omega)
        have e4 : yp_sl t (yp_sk t n p + k) = false := by
          rw [show yp_sk t n p + k = yp_wE t n p by omega]
          exact yp_run_end (by show yp_wE t n p < n; omega)
        rw [if_neg (yp_sl0.mp e4)] at q9
        simp (disch := omega) only [fX12_word_b14, hM, hT, c2, q7, q9, Nat.reduceAdd, Nat.reduceMul, Nat.reduceSub, Nat.zero_add, Nat.add_zero, yp_LT, yp_nA, yp_nM, yp_ltF, yp_ltT, yp_leF, yp_leT, yp_eqF, eq_self, yp_eqM, yp_lt1N, yp_sbN, yp_sb2N, ↓reduceIte, ↓yp_iP11, ↓yp_iP12, ↓yp_m0P]
      · simp (disch := omega) only [fX12_word_b14, hM, hT, c2, Nat.reduceAdd, Nat.reduceMul, Nat.reduceSub, Nat.zero_add, Nat.add_zero, yp_LT, yp_nA, yp_nM, yp_ltF, yp_ltT, yp_leF, yp_leT, yp_eqF, eq_self, yp_eqM, yp_lt1N, yp_sbN, yp_sb2N, ↓reduceIte, ↓yp_iP11, ↓yp_iP12, ↓yp_m0P]
    · have e3 : yp_sk t n p + k < n := by omega
      have q7 := cb _ e3
      have e4 := in1 k (by omega)
      have q9 := yp_isSm (t (yp_sk t n p + k)) (by omega)
      rw [if_pos e4] at q9
      refine .inl ⟨by omega, (yp_N (if k + 1 ≤ 6 then yp_cd t (yp_sk t n p) (k + 1) else 0), yp_N (k + 1), yp_N (yp_sk t n p + k + 1)), ?_, rfl⟩
      by_cases e5 : 6 ≤ k
      · rw [if_neg (show ¬ k + 1 ≤ 6 by omega)]
        simp (disch := omega) only [fX12_word_b14, fX12_word_j57, hM, hT, c2, q7, q9, Nat.reduceAdd, Nat.reduceMul, Nat.reduceSub, Nat.zero_add, Nat.add_zero, yp_LT, yp_nA, yp_nM, yp_ltF, yp_ltT, yp_leF, yp_leT, yp_eqF, eq_self, yp_eqM, yp_lt1N, yp_sbN, yp_sb2N, ↓reduceIte, ↓yp_iP11, ↓yp_iP12, ↓yp_m0P]
      · rw [if_pos (show k ≤ 6 by omega), if_pos (show k + 1 ≤ 6 by omega), yp_cd_s]
        have yp_b1 := yp_cd_lt (t := t) (q := yp_sk t n p) (k := k) (fun i hi => (in1 i (by omega)).2)
        have b2 : 32 ^ k ≤ 32 ^ 5 := Nat.pow_le_pow_right (by omega) (by omega)
        have b3 : (32 : Nat) ^ 5 = 33554432 := by decide
        have q10 := yp_shl5 (a := yp_cd t (yp_sk t n p) k) (b := t (yp_sk t n p + k)) (by omega) e4.1 e4.2
        simp (disch := omega) only [fX12_word_b14, fX12_word_j57, hM, hT, c2, q7, q9, q10, Nat.reduceAdd, Nat.reduceMul, Nat.reduceSub, Nat.zero_add, Nat.add_zero, yp_LT, yp_nA, yp_nM, yp_ltF, yp_ltT, yp_leF, yp_leT, yp_eqF, eq_self, yp_eqM, yp_lt1N, yp_sbN, yp_sb2N, ↓reduceIte, ↓yp_iP11, ↓yp_iP12, ↓yp_m0P]) (show yp_wE t n p - yp_sk t n p < FU by rw [yp_FUe]; omega) (s0 := (yp_N 0, yp_N 0, yp_N (yp_sk t n p))) rfl
  rw [e2] at e1
  unfold yp_wC
  by_cases e5 : yp_wE t n p - yp_sk t n p ≤ 6
  · rw [if_pos e5] at e1 ⊢
    simp (disch := omega) only [fX12_word, fX12_word_j67, fX12_word_j78, hM, e0, c3, e1, Nat.reduceAdd, Nat.reduceMul, Nat.reduceSub, Nat.zero_add, Nat.add_zero, yp_LT, yp_nA, yp_nM, yp_ltF, yp_ltT, yp_leF, yp_leT, yp_eqF, eq_self, yp_eqM, yp_lt1N, yp_sbN, yp_sb2N, ↓reduceIte, ↓yp_iP11, ↓yp_iP12, ↓yp_m0P]
  · rw [if_neg e5] at e1 ⊢
    simp (disch := omega) only [fX12_word, fX12_word_j67, fX12_word_j78, hM, e0, c3, e1, Nat.reduceAdd, Nat.reduceMul, Nat.reduceSub, Nat.zero_add, Nat.add_zero, yp_LT, yp_nA, yp_nM, yp_ltF, yp_ltT, yp_leF, yp_leT, yp_eqF, eq_self, yp_eqM, yp_lt1N, yp_sbN, yp_sb2N, ↓reduceIte, ↓yp_iP11, ↓yp_iP12, ↓yp_m0P]
end TAPEM

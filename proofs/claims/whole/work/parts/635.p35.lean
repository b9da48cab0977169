def yp_rn (P : Nat → Bool) (n : Nat) : Nat → Nat → Nat
  | 0, p => p
  | k + 1, p => if p < n ∧ P p = true then yp_rn P n k (p + 1) else p
def yp_run (P : Nat → Bool) (n p : Nat) : Nat := yp_rn P n (n - p) p
set_option maxHeartbeats 1000000 in
theorem yp_run1 {P : Nat → Bool} {n p : Nat} (h : p < n) (hp : P p = true) : yp_run P n p = yp_run P n (p + 1) := by
  unfold yp_run
  rw [show n - p = (n - (p + 1)) + 1 by omega]
  exact if_pos ⟨h, hp⟩
set_option maxHeartbeats 1000000 in
theorem yp_run0 {P : Nat → Bool} {n p : Nat} (h : ¬ (p < n ∧ P p = true)) : yp_run P n p = p := by
  unfold yp_run
  cases hk : n - p with
  | zero => rfl
  | succ k => exact if_neg h
set_option maxHeartbeats 1000000 in
theorem yp_run_all {P : Nat → Bool} {n : Nat} : ∀ d p, n - p = d → p ≤ yp_run P n p ∧ (p ≤ n → yp_run P n p ≤ n) ∧ (∀ i, p ≤ i → i < yp_run P n p → P i = true) ∧ (yp_run P n p < n → P (yp_run P n p) = false) := by
  intro d
  induction d with
  | zero =>
    intro p hd
    rw [yp_run0 (by omega)]
    exact ⟨Nat.le_refl p, fun h => h, fun i h1 h2 => by omega, fun h => by omega⟩
  | succ d ih =>
    intro p hd
    by_cases h : P p = true
    · rw [yp_run1 (by omega) h]
      obtain ⟨h1, h2, h3, h4⟩ := ih (p + 1) (by omega)
      refine ⟨by omega, fun _ => h2 (by omega), fun i h5 h6 => ?_, h4⟩
      by_cases e : i = p
      · rw [e]; exact h
      · exact h3 i (by omega) h6
    · rw [yp_run0 (fun q => h q.2)]
      exact ⟨Nat.le_refl p, fun h => h, fun i h1 h2 => by omega, fun _ => by simpa using h⟩
set_option maxHeartbeats 1000000 in
theorem yp_run_ge (P : Nat → Bool) (n p : Nat) : p ≤ yp_run P n p := (yp_run_all (n - p) p rfl).1
set_option maxHeartbeats 1000000 in
theorem yp_run_le {P : Nat → Bool} {n p : Nat} (h : p ≤ n) : yp_run P n p ≤ n := (yp_run_all (n - p) p rfl).2.1 h
set_option maxHeartbeats 1000000 in
theorem yp_run_in {P : Nat → Bool} {n p i : Nat} (h1 : p ≤ i) (h2 : i < yp_run P n p) : P i = true := (yp_run_all (n - p) p rfl).2.2.1 i h1 h2
set_option maxHeartbeats 1000000 in
theorem yp_run_end {P : Nat → Bool} {n p : Nat} (h : yp_run P n p < n) : P (yp_run P n p) = false := (yp_run_all (n - p) p rfl).2.2.2 h
set_option maxHeartbeats 1000000 in
theorem yp_run_fix {P : Nat → Bool} {n p : Nat} : yp_run P n (yp_run P n p) = yp_run P n p := yp_run0 (fun q => by
  have := yp_run_end (P := P) (n := n) (p := p) q.1
  rw [this] at q
  exact absurd q.2 (by decide))
set_option maxHeartbeats 1000000 in
theorem yp_up2_2 (m : Mem) (a j : Nat) (x y : Int32) : up2 (up2 m a j x) a j y = up2 m a j y := by
  funext b k
  unfold up2
  split
  · rfl
  · rfl
set_option maxHeartbeats 1000000 in
theorem yp_up2_id (m : Mem) (a j : Nat) : up2 m a j (m a j) = m := by
  funext b k
  unfold up2
  split
  · rename_i h; rw [h.1, h.2]
  · rfl
set_option maxHeartbeats 1000000 in
theorem yp_adv {step : Mem → Option (Mem ⊕ Mem)} {m : Mem} {P : Nat → Bool} (a j n p : Nat) (hp : p ≤ n) (hn : n < 8000) (h1 : ∀ q, p ≤ q → q < n → P q = true → step (up2 m a j (yp_N q)) = some (.inl (up2 m a j (yp_N (q + 1))))) (h2 : ∀ q, p ≤ q → q ≤ n → (q < n → P q = false) → step (up2 m a j (yp_N q)) = some (.inr (up2 m a j (yp_N q)))) (h0 : m a j = yp_N p) : loopN step FU m = some (up2 m a j (yp_N (yp_run P n p))) := by
  have g1 := yp_run_ge P n p
  have g2 := yp_run_le (P := P) hp
  obtain ⟨x, e1, e2⟩ := yp_lpI (step := step) (fun k st => st = up2 m a j (yp_N (p + k))) (fun x => x = up2 m a j (yp_N (yp_run P n p))) (yp_run P n p - p) (fun k st hk hJ => by
    subst hJ
    by_cases e : k = yp_run P n p - p
    · rw [show p + k = yp_run P n p by omega]
      exact .inr ⟨_, h2 _ g1 g2 (fun h => yp_run_end h), rfl⟩
    · exact .inl ⟨by omega, _, h1 (p + k) (by omega) (by omega) (yp_run_in (n := n) (p := p) (by omega) (by omega)), rfl⟩) (show yp_run P n p - p < FU by rw [yp_FUe]; omega) (s0 := m) (by rw [Nat.add_zero, ← h0, yp_up2_id])
  rw [e1, e2]
def yp_bl (t : Nat → Nat) (i : Nat) : Bool := decide (t i = 32)
def yp_dg (t : Nat → Nat) (i : Nat) : Bool := decide (48 ≤ t i ∧ t i ≤ 57)
def yp_sl (t : Nat → Nat) (i : Nat) : Bool := decide (97 ≤ t i ∧ t i ≤ 122)
set_option maxHeartbeats 1000000 in
theorem yp_bl1 {t : Nat → Nat} {i : Nat} : yp_bl t i = true ↔ t i = 32 := by unfold yp_bl; exact decide_eq_true_iff
set_option maxHeartbeats 1000000 in
theorem yp_bl0 {t : Nat → Nat} {i : Nat} : yp_bl t i = false ↔ ¬ t i = 32 := by unfold yp_bl; exact decide_eq_false_iff_not
set_option maxHeartbeats 1000000 in
theorem yp_dg1 {t : Nat → Nat} {i : Nat} : yp_dg t i = true ↔ (48 ≤ t i ∧ t i ≤ 57) := by unfold yp_dg; exact decide_eq_true_iff
set_option maxHeartbeats 1000000 in
theorem yp_dg0 {t : Nat → Nat} {i : Nat} : yp_dg t i = false ↔ ¬ (48 ≤ t i ∧ t i ≤ 57) := by unfold yp_dg; exact decide_eq_false_iff_not
set_option maxHeartbeats 1000000 in
theorem yp_sl1 {t : Nat → Nat} {i : Nat} : yp_sl t i = true ↔ (97 ≤ t i ∧ t i ≤ 122) := by unfold yp_sl; exact decide_eq_true_iff
set_option maxHeartbeats 1000000 in
theorem yp_sl0 {t : Nat → Nat} {i : Nat} : yp_sl t i = false ↔ ¬ (97 ≤ t i ∧ t i ≤ 122) := by unfold yp_sl; exact decide_eq_false_iff_not
def yp_sk (t : Nat → Nat) (n p : Nat) : Nat := yp_run (yp_bl t) n p
def yp_nE (t : Nat → Nat) (n p : Nat) : Nat := yp_run (yp_dg t) n (yp_sk t n p)
def yp_wE (t : Nat → Nat) (n p : Nat) : Nat := yp_run (yp_sl t) n (yp_sk t n p)
def yp_vlG (t : Nat → Nat) (q i a : Nat) : Nat := 10 * a + (t (q + i) - 48)
def yp_vl (t : Nat → Nat) (q k : Nat) : Nat := yp_fo (yp_vlG t q) k 0
def yp_nV (t : Nat → Nat) (n p : Nat) : Nat := yp_vl t (yp_sk t n p) (yp_nE t n p - yp_sk t n p)
def yp_nK (t : Nat → Nat) (n lo hi p : Nat) : Nat := if yp_nE t n p = yp_sk t n p then 1 else if lo ≤ yp_nV t n p ∧ yp_nV t n p < hi then 0 else 2
set_option maxHeartbeats 1000000 in
theorem yp_sk_ge (t : Nat → Nat) (n p : Nat) : p ≤ yp_sk t n p := yp_run_ge _ n p
set_option maxHeartbeats 1000000 in
theorem yp_sk_le {t : Nat → Nat} {n p : Nat} (h : p ≤ n) : yp_sk t n p ≤ n := yp_run_le h
set_option maxHeartbeats 1000000 in
theorem yp_sk_fix {t : Nat → Nat} {n p : Nat} : yp_sk t n (yp_sk t n p) = yp_sk t n p := yp_run_fix
set_option maxHeartbeats 1000000 in
theorem yp_nE_ge (t : Nat → Nat) (n p : Nat) : yp_sk t n p ≤ yp_nE t n p := yp_run_ge _ n _
set_option maxHeartbeats 1000000 in
theorem yp_nE_le {t : Nat → Nat} {n p : Nat} (h : p ≤ n) : yp_nE t n p ≤ n := yp_run_le (yp_sk_le (t := t) h)
set_option maxHeartbeats 1000000 in
theorem yp_wE_ge (t : Nat → Nat) (n p : Nat) : yp_sk t n p ≤ yp_wE t n p := yp_run_ge _ n _
set_option maxHeartbeats 1000000 in
theorem yp_wE_le {t : Nat → Nat} {n p : Nat} (h : p ≤ n) : yp_wE t n p ≤ n := yp_run_le (yp_sk_le (t := t) h)
set_option maxHeartbeats 1000000 in
theorem yp_nE_iff {t : Nat → Nat} {n p : Nat} (hp : p ≤ n) : yp_nE t n p = yp_sk t n p ↔ ¬ (yp_sk t n p < n ∧ yp_dg t (yp_sk t n p) = true) := by
  constructor
  · intro h q
    have h1 : yp_nE t n p = yp_run (yp_dg t) n (yp_sk t n p + 1) := yp_run1 q.1 q.2
    have := yp_run_ge (yp_dg t) n (yp_sk t n p + 1)
    omega
  · intro h
    exact yp_run0 h
section TAPEC
variable {B : Nat} {m : Mem} {t : Nat → Nat} {n p : Nat}
def yp_cAt (B : Nat) (m : Mem) (q : Nat) : Mem := up2 m (B + 1) 3 (yp_N q)
def yp_CT (B : Nat) (m : Mem) (t : Nat → Nat) (n p : Nat) : Prop := (m (B + 1) 2 = yp_N n ∧ m (B + 1) 3 = yp_N p ∧ ∀ k, k < n → m (B + 2) k = yp_N (t k)) ∧ n ≤ 600 ∧ p ≤ n ∧ ∀ k, t k < 256
set_option maxHeartbeats 1000000 in
theorem yp_CT.at (h : yp_CT B m t n p) {q : Nat} (hq : q ≤ n) : yp_CT B (yp_cAt B m q) t n q := by
  obtain ⟨⟨h1, h2, h3⟩, h4, h5, h6⟩ := h
  refine ⟨⟨?_, yp_up2_s _ _ _ _, fun k hk => ?_⟩, h4, hq, h6⟩
  · unfold yp_cAt; rw [yp_up2_n _ _ (by omega)]; exact h1
  · unfold yp_cAt; rw [yp_up2_n _ _ (by omega)]; exact h3 k hk
set_option maxHeartbeats 1000000 in
theorem yp_CT.fr {m' : Mem} (h : yp_CT B m t n p) (hf : ∀ a j, (a = B + 1 ∧ (j = 2 ∨ j = 3)) ∨ a = B + 2 → m' a j = m a j) : yp_CT B m' t n p :=
  ⟨⟨(hf _ _ (by omega)).trans h.1.1, (hf _ _ (by omega)).trans h.1.2.1, fun k hk => (hf _ _ (by omega)).trans (h.1.2.2 k hk)⟩, h.2⟩
set_option maxHeartbeats 1000000 in
theorem yp_cAt2 (B : Nat) (m : Mem) (p q : Nat) : yp_cAt B (yp_cAt B m p) q = yp_cAt B m q := yp_up2_2 _ _ _ _ _
set_option maxHeartbeats 1000000 in
theorem yp_cAt_n {a j : Nat} (q : Nat) (h : ¬ (a = B + 1 ∧ j = 3)) : yp_cAt B m q a j = m a j := yp_up2_n _ _ (by omega)
set_option maxHeartbeats 1000000 in
theorem yp_c_next (h : yp_CT B m t n p) : fX8_next (yp_SH B) (B + 1) m = some (yp_N (yp_sk t n p), yp_cAt B m (yp_sk t n p)) := by
  have hT := yp_tapS B
  have hn := h.2.1
  have hp := h.2.2.1
  have e1 := yp_adv (step := fun st : Mem => fX8_next_b0 (yp_SH B) (B + 1) st) (m := m) (P := yp_bl t) (B + 1) 3 n p hp (by omega) (fun q h1 h2 h3 => by
    have hq := h.at (q := q) (by omega)
    unfold yp_cAt at hq
    obtain ⟨⟨q1, q2, q3⟩, q4, q5, q6⟩ := hq
    have q7 := q3 q h2
    have h3 := yp_bl1.mp h3
    rw [h3] at q7
    simp (disch := omega) only [fX8_next_b0, hT, q1, q2, q7, yp_up2_2, Nat.reduceAdd, Nat.reduceMul, Nat.reduceSub, Nat.zero_add, Nat.add_zero, yp_LT, yp_nA, yp_nM, yp_ltF, yp_ltT, yp_leF, yp_leT, yp_eqF, eq_self, yp_eqM, yp_lt1N, yp_sbN, yp_sb2N, ↓reduceIte, ↓yp_iP11, ↓yp_iP12, ↓yp_m0P]) (fun q h1 h2 h3 => by
    have hq := h.at (q := q) (by omega)
    unfold yp_cAt at hq
    obtain ⟨⟨q1, q2, q3⟩, q4, q5, q6⟩ := hq
    by_cases e : q = n
    · subst e
      simp (disch := omega) only [fX8_next_b0, hT, q1, q2, Nat.reduceAdd, Nat.reduceMul, Nat.reduceSub, Nat.zero_add, Nat.add_zero, yp_LT, yp_nA, yp_nM, yp_ltF, yp_ltT, yp_leF, yp_leT, yp_eqF, eq_self, yp_eqM, yp_lt1N, yp_sbN, yp_sb2N, ↓reduceIte, ↓yp_iP11, ↓yp_iP12, ↓yp_m0P]
    · have q7 := q3 q (by omega)
      have h3 := yp_bl0.mp (h3 (by omega))
      have q8 := q6 q
      simp (disch := omega) only [fX8_next_b0, hT, q1, q2, q7, Nat.reduceAdd, Nat.reduceMul, Nat.reduceSub, Nat.zero_add, Nat.add_zero, yp_LT, yp_nA, yp_nM, yp_ltF, yp_ltT, yp_leF, yp_leT, yp_eqF, eq_self, yp_eqM, yp_lt1N, yp_sbN, yp_sb2N, ↓reduceIte, ↓yp_iP11, ↓yp_iP12, ↓yp_m0P]) h.1.2.1
  have e2 : up2 m (B + 1) 3 (yp_N (yp_run (yp_bl t) n p)) (B + 1) 3 = yp_N (yp_run (yp_bl t) n p) := yp_up2_s _ _ _ _
  simp (disch := omega) only [fX8_next, fX8_next_j38, e1, hT, e2, Nat.reduceAdd, Nat.reduceMul, Nat.reduceSub, Nat.zero_add, Nat.add_zero, yp_LT, yp_nA, yp_nM, yp_ltF, yp_ltT, yp_leF, yp_leT, yp_eqF, eq_self, yp_eqM, yp_lt1N, yp_sbN, yp_sb2N, ↓reduceIte, ↓yp_iP11, ↓yp_iP12, ↓yp_m0P]
  rfl
set_option maxHeartbeats 1000000 in
theorem yp_c_ended (h : yp_CT B m t n p) : fX8_ended (yp_SH B) (B + 1) m = some (if yp_sk t n p < n then yp_N 0 else yp_N 1, yp_cAt B m (yp_sk t n p)) := by
  have hT := yp_tapS B
  have e1 := yp_c_next h
  have hq := h.at (yp_sk_le (t := t) h.2.2.1)
  have hl := yp_sk_le (t := t) h.2.2.1
  have hn := h.2.1
  have c2 := hq.1.1
  by_cases e : yp_sk t n p < n
  · rw [if_pos e]
    simp (disch := omega) only [fX8_ended, fX8_ended_j16, e1, hT, c2, yp_ck0, yp_ck1, Nat.reduceAdd, Nat.reduceMul, Nat.reduceSub, Nat.zero_add, Nat.add_zero, yp_LT, yp_nA, yp_nM, yp_ltF, yp_ltT, yp_leF, yp_leT, yp_eqF, eq_self, yp_eqM, yp_lt1N, yp_sbN, yp_sb2N, ↓reduceIte, ↓yp_iP11, ↓yp_iP12, ↓yp_m0P]
  · rw [if_neg e]
    simp (disch := omega) only [fX8_ended, fX8_ended_j16, e1, hT, c2, yp_ck0, yp_ck1, Nat.reduceAdd, Nat.reduceMul, Nat.reduceSub, Nat.zero_add, Nat.add_zero, yp_LT, yp_nA, yp_nM, yp_ltF, yp_ltT, yp_leF, yp_leT, yp_eqF, eq_self, yp_eqM, yp_lt1N, yp_sbN, yp_sb2N, ↓reduceIte, ↓yp_iP11, ↓yp_iP12, ↓yp_m0P]
set_option maxHeartbeats 1000000 in
theorem yp_c_sees (h : yp_CT B m t n p) (c : Nat) (hc : c < 256) : fX8_sees (yp_SH B) (B + 1) (yp_N c) m = some (if yp_sk t n p < n ∧ t (yp_sk t n p) = c then yp_N 1 else yp_N 0, yp_cAt B m (yp_sk t n p)) := by
  have hT := yp_tapS B
  have e1 := yp_c_next h
  have hq := h.at (yp_sk_le (t := t) h.2.2.1)
  have hl := yp_sk_le (t := t) h.2.2.1
  have hn := h.2.1
  obtain ⟨⟨c2, c3, cb⟩, _, _, c6⟩ := hq
  by_cases e : yp_sk t n p < n
  · have q7 := cb _ e
    have q8 := c6 (yp_sk t n p)
    by_cases e2 : t (yp_sk t n p) = c
    · rw [if_pos ⟨e, e2⟩]
      rw [e2] at q7
      simp (disch := omega) only [fX8_sees_j29, fX8_sees_j28, fX8_sees, e1, hT, c2, c3, q7, yp_ck0, yp_ck1, Nat.reduceAdd, Nat.reduceMul, Nat.reduceSub, Nat.zero_add, Nat.add_zero, yp_LT, yp_nA, yp_nM, yp_ltF, yp_ltT, yp_leF, yp_leT, yp_eqF, eq_self, yp_eqM, yp_lt1N, yp_sbN, yp_sb2N, ↓reduceIte, ↓yp_iP11, ↓yp_iP12, ↓yp_m0P]
    · rw [if_neg (fun q => e2 q.2)]
      simp (disch := omega) only [fX8_sees_j29, fX8_sees_j28, fX8_sees, e1, hT, c2, c3, q7, yp_ck0, yp_ck1, Nat.reduceAdd, Nat.reduceMul, Nat.reduceSub, Nat.zero_add, Nat.add_zero, yp_LT, yp_nA, yp_nM, yp_ltF, yp_ltT, yp_leF, yp_leT, yp_eqF, eq_self, yp_eqM, yp_lt1N, yp_sbN, yp_sb2N, ↓reduceIte, ↓yp_iP11, ↓yp_iP12, ↓yp_m0P]
  · rw [if_neg (fun q => e q.1)]
    simp (disch := omega) only [fX8_sees_j29, fX8_sees_j28, fX8_sees, e1, hT, c2, yp_ck0, yp_ck1, Nat.reduceAdd, Nat.reduceMul, Nat.reduceSub, Nat.zero_add, Nat.add_zero, yp_LT, yp_nA, yp_nM, yp_ltF, yp_ltT, yp_leF, yp_leT, yp_eqF, eq_self, yp_eqM, yp_lt1N, yp_sbN, yp_sb2N, ↓reduceIte, ↓yp_iP11, ↓yp_iP12, ↓yp_m0P]
set_option maxHeartbeats 1000000 in
theorem yp_isDg (k : Nat) (hk : k < 2147483648) : fX8_isDigit (yp_N k) = some (if 48 ≤ k ∧ k ≤ 57 then yp_N 1 else yp_N 0) := by
  by_cases h1 : k < 48
  · rw [if_neg (by omega)]
    simp (disch := omega) only [fX8_isDigit_j17, fX8_isDigit_j16, fX8_isDigit, yp_ck0, yp_ck1, Nat.reduceAdd, Nat.reduceMul, Nat.reduceSub, Nat.zero_add, Nat.add_zero, yp_LT, yp_nA, yp_nM, yp_ltF, yp_ltT, yp_leF, yp_leT, yp_eqF, eq_self, yp_eqM, yp_lt1N, yp_sbN, yp_sb2N, ↓reduceIte, ↓yp_iP11, ↓yp_iP12, ↓yp_m0P]
  · by_cases h2 : k ≤ 57
    · rw [if_pos (by omega)]
      simp (disch := omega) only [fX8_isDigit_j17, fX8_isDigit_j16, fX8_isDigit, yp_ck0, yp_ck1, Nat.reduceAdd, Nat.reduceMul, Nat.reduceSub, Nat.zero_add, Nat.add_zero, yp_LT, yp_nA, yp_nM, yp_ltF, yp_ltT, yp_leF, yp_leT, yp_eqF, eq_self, yp_eqM, yp_lt1N, yp_sbN, yp_sb2N, ↓reduceIte, ↓yp_iP11, ↓yp_iP12, ↓yp_m0P]
    · rw [if_neg (by omega)]
      simp (disch := omega) only [fX8_isDigit_j17, fX8_isDigit_j16, fX8_isDigit, yp_ck0, yp_ck1, Nat.reduceAdd, Nat.reduceMul, Nat.reduceSub, Nat.zero_add, Nat.add_zero, yp_LT, yp_nA, yp_nM, yp_ltF, yp_ltT, yp_leF, yp_leT, yp_eqF, eq_self, yp_eqM, yp_lt1N, yp_sbN, yp_sb2N, ↓reduceIte, ↓yp_iP11, ↓yp_iP12, ↓yp_m0P]
set_option maxHeartbeats 1000000 in
theorem yp_c_seesD (h : yp_CT B m t n p) : fX8_seesDigit (yp_SH B) (B + 1) m = some (if yp_sk t n p < n ∧ yp_dg t (yp_sk t n p) = true then yp_N 1 else yp_N 0, yp_cAt B m (yp_sk t n p)) := by
  have hT := yp_tapS B
  have e1 := yp_c_next h
  have hq := h.at (yp_sk_le (t := t) h.2.2.1)
  have hl := yp_sk_le (t := t) h.2.2.1
  have hn := h.2.1
  obtain ⟨⟨c2, c3, cb⟩, _, _, c6⟩ := hq
  by_cases e : yp_sk t n p < n
  · have q7 := cb _ e
    have q8 := c6 (yp_sk t n p)
    have q9 := yp_isDg (t (yp_sk t n p)) (by omega)
    by_cases e2 : yp_dg t (yp_sk t n p) = true
    · rw [if_pos ⟨e, e2⟩]
      rw [if_pos (yp_dg1.mp e2)] at q9
      simp (disch := omega) only [fX8_seesDigit_j31, fX8_seesDigit_j30, fX8_seesDigit, e1, hT, c2, c3, q7, q9, yp_ck0, yp_ck1, Nat.reduceAdd, Nat.reduceMul, Nat.reduceSub, Nat.zero_add, Nat.add_zero, yp_LT, yp_nA, yp_nM, yp_ltF, yp_ltT, yp_leF, yp_leT, yp_eqF, eq_self, yp_eqM, yp_lt1N, yp_sbN, yp_sb2N, ↓reduceIte, ↓yp_iP11, ↓yp_iP12, ↓yp_m0P]
    · rw [if_neg (fun q => e2 q.2)]
      rw [if_neg (fun q => e2 (yp_dg1.mpr q))] at q9
      simp (disch := omega) only [fX8_seesDigit_j31, fX8_seesDigit_j30, fX8_seesDigit, e1, hT, c2, c3, q7, q9, yp_ck0, yp_ck1, Nat.reduceAdd, Nat.reduceMul, Nat.reduceSub, Nat.zero_add, Nat.add_zero, yp_LT, yp_nA, yp_nM, yp_ltF, yp_ltT, yp_leF, yp_leT, yp_eqF, eq_self, yp_eqM, yp_lt1N, yp_sbN, yp_sb2N, ↓reduceIte, ↓yp_iP11, ↓yp_iP12, ↓yp_m0P]
  · rw [if_neg (fun q => e q.1)]
    simp (disch := omega) only [fX8_seesDigit_j31, fX8_seesDigit_j30, fX8_seesDigit, e1, hT, c2, yp_ck0, yp_ck1, Nat.reduceAdd, Nat.reduceMul, Nat.reduceSub, Nat.zero_add, Nat.add_zero, yp_LT, yp_nA, yp_nM, yp_ltF, yp_ltT, yp_leF, yp_leT, yp_eqF, eq_self, yp_eqM, yp_lt1N, yp_sbN, yp_sb2N, ↓reduceIte, ↓yp_iP11, ↓yp_iP12, ↓yp_m0P]
set_option maxHeartbeats 1000000 in
theorem yp_c_takes1 (h : yp_CT B m t n p) (c : Nat) (hc : c < 256) (e : yp_sk t n p < n ∧ t (yp_sk t n p) = c) : fX8_takes (yp_SH B) (B + 1) (yp_N c) m = some (yp_N 1, yp_cAt B m (yp_sk t n p + 1)) := by
  have hT := yp_tapS B
  have e1 := yp_c_next h
  have hq := h.at (yp_sk_le (t := t) h.2.2.1)
  have hn := h.2.1
  obtain ⟨⟨c2, c3, cb⟩, _, _, c6⟩ := hq
  have q7 := cb _ e.1
  rw [e.2] at q7
  have q9 : up2 (yp_cAt B m (yp_sk t n p)) (B + 1) 3 (yp_N (yp_sk t n p + 1)) = yp_cAt B m (yp_sk t n p + 1) := yp_cAt2 _ _ _ _
  simp (disch := omega) only [fX8_takes_j24, fX8_takes, e1, hT, c2, c3, q7, q9, Nat.reduceAdd, Nat.reduceMul, Nat.reduceSub, Nat.zero_add, Nat.add_zero, yp_LT, yp_nA, yp_nM, yp_ltF, yp_ltT, yp_leF, yp_leT, yp_eqF, eq_self, yp_eqM, yp_lt1N, yp_sbN, yp_sb2N, ↓reduceIte, ↓yp_iP11, ↓yp_iP12, ↓yp_m0P]
set_option maxHeartbeats 1000000 in
theorem yp_c_takes0 (h : yp_CT B m t n p) (c : Nat) (hc : c < 256) (e : ¬ (yp_sk t n p < n ∧ t (yp_sk t n p) = c)) : fX8_takes (yp_SH B) (B + 1) (yp_N c) m = some (yp_N 0, yp_cAt B m (yp_sk t n p)) := by
  have hT := yp_tapS B
  have e1 := yp_c_next h
  have hq := h.at (yp_sk_le (t := t) h.2.2.1)
  have hl := yp_sk_le (t := t) h.2.2.1
  have hn := h.2.1
  obtain ⟨⟨c2, c3, cb⟩, _, _, c6⟩ := hq
  by_cases e2 : yp_sk t n p < n
  · have q7 := cb _ e2
    have q8 := c6 (yp_sk t n p)
    have e3 : t (yp_sk t n p) ≠ c := fun q => e ⟨e2, q⟩
    simp (disch := omega) only [fX8_takes_j24, fX8_takes, e1, hT, c2, c3, q7, Nat.reduceAdd, Nat.reduceMul, Nat.reduceSub, Nat.zero_add, Nat.add_zero, yp_LT, yp_nA, yp_nM, yp_ltF, yp_ltT, yp_leF, yp_leT, yp_eqF, eq_self, yp_eqM, yp_lt1N, yp_sbN, yp_sb2N, ↓reduceIte, ↓yp_iP11, ↓yp_iP12, ↓yp_m0P]
  · simp (disch := omega) only [fX8_takes_j24, fX8_takes, e1, hT, c2, Nat.reduceAdd, Nat.reduceMul, Nat.reduceSub, Nat.zero_add, Nat.add_zero, yp_LT, yp_nA, yp_nM, yp_ltF, yp_ltT, yp_leF, yp_leT, yp_eqF, eq_self, yp_eqM, yp_lt1N, yp_sbN, yp_sb2N, ↓reduceIte, ↓yp_iP11, ↓yp_iP12, ↓yp_m0P]
def yp_cF (B : Nat) (m : Mem) (k x : Nat) : Mem := if m (B + 1) 4 = yp_N 0 then up2 (up2 m (B + 1) 4 (yp_N k)) (B + 1) 5 (yp_N x) else m
set_option maxHeartbeats 1000000 in
theorem yp_c_fail (B : Nat) (m : Mem) (k x : Nat) : fX8_fail (yp_SH B) (B + 1) (yp_N k) (yp_N x) m = some (yp_N 0, yp_cF B m k x) := by
  have hT := yp_tapS B
  unfold yp_cF
  by_cases e : m (B + 1) 4 = yp_N 0
  · rw [if_pos e]
    simp (disch := omega) only [fX8_fail_j17, fX8_fail, hT, e, Nat.reduceAdd, Nat.reduceMul, Nat.reduceSub, Nat.zero_add, Nat.add_zero, yp_LT, yp_nA, yp_nM, yp_ltF, yp_ltT, yp_leF, yp_leT, yp_eqF, eq_self, yp_eqM, yp_lt1N, yp_sbN, yp_sb2N, ↓reduceIte, ↓yp_iP11, ↓yp_iP12, ↓yp_m0P]
  · rw [if_neg e]
    simp (disch := omega) only [fX8_fail_j17, fX8_fail, hT, e, Nat.reduceAdd, Nat.reduceMul, Nat.reduceSub, Nat.zero_add, Nat.add_zero, yp_LT, yp_nA, yp_nM, yp_ltF, yp_ltT, yp_leF, yp_leT, yp_eqF, eq_self, yp_eqM, yp_lt1N, yp_sbN, yp_sb2N, ↓reduceIte, ↓yp_iP11, ↓yp_iP12, ↓yp_m0P]
set_option maxHeartbeats 1000000 in
theorem yp_cF_n {a j : Nat} (k x : Nat) (h : ¬ (a = B + 1 ∧ (j = 4 ∨ j = 5))) : yp_cF B m k x a j = m a j := by
  unfold yp_cF
  split
  · rw [yp_up2_n _ _ (by omega), yp_up2_n _ _ (by omega)]
  · rfl
set_option maxHeartbeats 1000000 in
theorem yp_cF_1 {k x : Nat} (h : m (B + 1) 4 = yp_N 0) : yp_cF B m k x (B + 1) 4 = yp_N k ∧ yp_cF B m k x (B + 1) 5 = yp_N x := by
  unfold yp_cF
  rw [if_pos h]
  exact ⟨by rw [yp_up2_n _ _ (by omega), yp_up2_s], yp_up2_s _ _ _ _⟩
set_option maxHeartbeats 1000000 in
theorem yp_cF_0 {k x : Nat} (h : ¬ m (B + 1) 4 = yp_N 0) : yp_cF B m k x = m := by
  unfold yp_cF
  exact if_neg h
set_option maxHeartbeats 1000000 in
theorem yp_CT.fl (h : yp_CT B m t n p) (k x : Nat) : yp_CT B (yp_cF B m k x) t n p := h.fr (fun a j q => yp_cF_n k x (by omega))
set_option maxHeartbeats 1000000 in
theorem yp_c_wants1 (h : yp_CT B m t n p) (c : Nat) (hc : c < 256) (e : yp_sk t n p < n ∧ t (yp_sk t n p) = c) : fX8_wants (yp_SH B) (B + 1) (yp_N c) m = some (yp_N 1, yp_cAt B m (yp_sk t n p + 1)) := by
  have hT := yp_tapS B
  have e1 := yp_c_takes1 h c hc e
  simp (disch := omega) only [fX8_wants_j25, fX8_wants_j20, fX8_wants, hT, e1, yp_ck1, Nat.reduceAdd, Nat.reduceMul, Nat.reduceSub, Nat.zero_add, Nat.add_zero, yp_LT, yp_nA, yp_nM, yp_ltF, yp_ltT, yp_leF, yp_leT, yp_eqF, eq_self, yp_eqM, yp_lt1N, yp_sbN, yp_sb2N, ↓reduceIte, ↓yp_iP11, ↓yp_iP12, ↓yp_m0P]
set_option maxHeartbeats 1000000 in
theorem yp_c_wants0 (h : yp_CT B m t n p) (c : Nat) (hc : c < 256) (e : ¬ (yp_sk t n p < n ∧ t (yp_sk t n p) = c)) : fX8_wants (yp_SH B) (B + 1) (yp_N c) m = some (yp_N 0, yp_cF B (yp_cAt B m (yp_sk t n p)) 1 (yp_sk t n p)) := by
  have hT := yp_tapS B
  have e1 := yp_c_takes0 h c hc e
  have c3 := (h.at (yp_sk_le (t := t) h.2.2.1)).1.2.1
  have e2 := yp_c_fail B (yp_cAt B m (yp_sk t n p)) 1 (yp_sk t n p)
  simp (disch := omega) only [fX8_wants_j25, fX8_wants_j20, fX8_wants, hT, e1, c3, e2, yp_ck0, Nat.reduceAdd, Nat.reduceMul, Nat.reduceSub, Nat.zero_add, Nat.add_zero, yp_LT, yp_nA, yp_nM, yp_ltF, yp_ltT, yp_leF, yp_leT, yp_eqF, eq_self, yp_eqM, yp_lt1N, yp_sbN, yp_sb2N, ↓reduceIte, ↓yp_iP11, ↓yp_iP12, ↓yp_m0P]
set_option maxHeartbeats 1000000 in
theorem yp_c_whole (B : Nat) (m : Mem) : (m (B + 1) 4 = yp_N 0 → fX8_isWhole (yp_SH B) (B + 1) m = some (yp_N 1)) ∧ (¬ m (B + 1) 4 = yp_N 0 → fX8_isWhole (yp_SH B) (B + 1) m = some (yp_N 0)) := by
  have hT := yp_tapS B
  exact ⟨fun e => by simp (disch := omega) only [fX8_isWhole_j12, fX8_isWhole, hT, e, yp_ck1, Nat.reduceAdd, Nat.reduceMul, Nat.reduceSub, Nat.zero_add, Nat.add_zero, yp_LT, yp_nA, yp_nM, yp_ltF, yp_ltT, yp_leF, yp_leT, yp_eqF, eq_self, yp_eqM, yp_lt1N, yp_sbN, yp_sb2N, ↓reduceIte, ↓yp_iP11, ↓yp_iP12, ↓yp_m0P], fun e => by simp (disch := omega) only [fX8_isWhole_j12, fX8_isWhole, hT, e, yp_ck0, Nat.reduceAdd, Nat.reduceMul, Nat.reduceSub, Nat.zero_add, Nat.add_zero, yp_LT, yp_nA, yp_nM, yp_ltF, yp_ltT, yp_leF, yp_leT, yp_eqF, eq_self, yp_eqM, yp_lt1N, yp_sbN, yp_sb2N, ↓reduceIte, ↓yp_iP11, ↓yp_iP12, ↓yp_m0P]⟩
set_option maxHeartbeats 1000000 in
theorem yp_vl_s (t : Nat → Nat) (q k : Nat) : yp_vl t q (k + 1) = 10 * yp_vl t q k + (t (q + k) - 48) := rfl
set_option maxHeartbeats 1000000 in
theorem yp_mnN {a b : Nat} (ha : a < 2147483648) (hb : b < 2147483648) : mnI (yp_N a) (yp_N b) = yp_N (if b < a then b else a) := by
  unfold mnI
  simp only [yp_ltN hb ha]
  split <;> rfl
def yp_cap (v : Nat) : Nat := if v < 100000 then v else 100000
set_option maxHeartbeats 1000000 in
theorem yp_c_digits (h : yp_CT B m t n p) (x1 x2 : Int32) (q : Nat) : loopN (fun st : Int32 × Mem => fX8_number_b8 (yp_SH B) (B + 1) x1 x2 (yp_N q) st.1 st.2) FU (yp_N 0, m) = some (yp_N (yp_cap (yp_vl t p (yp_run (yp_dg t) n p - p))), yp_cAt B m (yp_run (yp_dg t) n p)) := by
  have hT := yp_tapS B
  have hn := h.2.1
  have hp := h.2.2.1
  have g1 := yp_run_ge (yp_dg t) n p
  have g2 := yp_run_le (P := yp_dg t) hp
  obtain ⟨x, e1, e2⟩ := yp_lpI (step := fun st : Int32 × Mem => fX8_number_b8 (yp_SH B) (B + 1) x1 x2 (yp_N q) st.1 st.2) (fun k st => st = (yp_N (yp_cap (yp_vl t p k)), yp_cAt B m (p + k))) (fun x => x = (yp_N (yp_cap (yp_vl t p (yp_run (yp_dg t) n p - p))), yp_cAt B m (yp_run (yp_dg t) n p))) (yp_run (yp_dg t) n p - p) (fun k st hk hJ => by
    subst hJ
    obtain ⟨⟨c2, c3, cb⟩, _, _, c6⟩ := h.at (q := p + k) (by omega)
    by_cases e : k = yp_run (yp_dg t) n p - p
    · refine .inr ⟨(yp_N (yp_cap (yp_vl t p k)), yp_cAt B m (p + k)), ?_, by rw [e, show p + (yp_run (yp_dg t) n p - p) = yp_run (yp_dg t) n p by omega]⟩
      by_cases e3 : p + k < n
      · have q7 := cb _ e3
        have q8 := c6 (p + k)
        have q9 := yp_isDg (t (p + k)) (by omega)
        have e4 : yp_dg t (p + k) = false := by
          rw [show p + k = yp_run (yp_dg t) n p by omega]
          exact yp_run_end (by omega)
        rw [if_neg (yp_dg0.mp e4)] at q9
        simp (disch := omega) only [fX8_number_b8, hT, c2, c3, q7, q9, Nat.reduceAdd, Nat.reduceMul, Nat.reduceSub, Nat.zero_add, Nat.add_zero, yp_LT, yp_nA, yp_nM, yp_ltF, yp_ltT, yp_leF, yp_leT, yp_eqF, eq_self, yp_eqM, yp_lt1N, yp_sbN, yp_sb2N, ↓reduceIte, ↓yp_iP11, ↓yp_iP12, ↓yp_m0P]
      · simp (disch := omega) only [fX8_number_b8, hT, c2, c3, Nat.reduceAdd, Nat.reduceMul, Nat.reduceSub, Nat.zero_add, Nat.add_zero, yp_LT, yp_nA, yp_nM, yp_ltF, yp_ltT, yp_leF, yp_leT, yp_eqF, eq_self, yp_eqM, yp_lt1N, yp_sbN, yp_sb2N, ↓reduceIte, ↓yp_iP11, ↓yp_iP12, ↓yp_m0P]
    · have e3 : p + k < n := by omega
      have q7 := cb _ e3
      have q8 := c6 (p + k)
      have q9 := yp_isDg (t (p + k)) (by omega)
      have e4 := yp_dg1.mp (yp_run_in (P := yp_dg t) (n := n) (p := p) (i := p + k) (by omega) (by omega))
      rw [if_pos e4] at q9
      refine .inl ⟨by omega, (yp_N (yp_cap (yp_vl t p (k + 1))), yp_cAt B m (p + k + 1)), ?_, rfl⟩
      have q10 : up2 (yp_cAt B m (p + k)) (B + 1) 3 (yp_N (p + k + 1)) = yp_cAt B m (p + k + 1) := yp_cAt2 _ _ _ _
      have q11 : yp_cap (yp_vl t p k) ≤ 100000 := by unfold yp_cap; split <;> omega
      have q12 : mnI (yp_N 100000) (yp_N (yp_cap (yp_vl t p k) * 10 + t (p + k)) - yp_N 48) = yp_N (yp_cap (yp_vl t p (k + 1))) := by
        rw [yp_nS (by omega), yp_mnN (by omega) (by omega), yp_vl_s]
        refine congrArg yp_N ?_
        unfold yp_cap
        split <;> split <;> split <;> omega
      simp (disch := omega) only [fX8_number_b8, hT, c2, c3, q7, q9, q10, q12, Nat.reduceAdd, Nat.reduceMul, Nat.reduceSub, Nat.zero_add, Nat.add_zero, yp_LT, yp_nA, yp_nM, yp_ltF, yp_ltT, yp_leF, yp_leT, yp_eqF, eq_self, yp_eqM, yp_lt1N, yp_sbN, yp_sb2N, ↓reduceIte, ↓yp_iP11, ↓yp_iP12, ↓yp_m0P]) (show yp_run (yp_dg t) n p - p < FU by rw [yp_FUe]; omega) (s0 := (yp_N 0, m)) (by
        have : yp_cAt B m p = m := by unfold yp_cAt; rw [← h.1.2.1, yp_up2_id]
        rw [Nat.add_zero, this]; rfl)
  rw [e1, e2]
set_option maxHeartbeats 1000000 in
theorem yp_c_number (h : yp_CT B m t n p) (lo hi : Nat) (x2 : Int32) (hx : x2.toInt = (hi : Int) - 1) (hlo : lo ≤ 1000) (hhi : hi ≤ 1000) : fX8_number (yp_SH B) (B + 1) (yp_N lo) x2 m = some (if yp_nK t n lo hi p = 0 then yp_N (yp_nV t n p) else -yp_N 1, if yp_nK t n lo hi p = 0 then yp_cAt B m (yp_nE t n p) else yp_cF B (yp_cAt B m (yp_nE t n p)) (yp_nK t n lo hi p) (yp_sk t n p)) := by
  have hT := yp_tapS B
  have e1 := yp_c_next h
  have hq := h.at (yp_sk_le (t := t) h.2.2.1)
  have hn := h.2.1
  have hl := yp_sk_le (t := t) h.2.2.1
  have g1 := yp_nE_ge t n p
  have g2 := yp_nE_le (t := t) h.2.2.1
  have e2 := yp_c_digits hq (yp_N lo) x2 (yp_sk t n p)
  have e2 : loopN (fun st : Int32 × Mem => fX8_number_b8 (yp_SH B) (B + 1) (yp_N lo) x2 (yp_N (yp_sk t n p)) st.1 st.2) FU (yp_N 0, yp_cAt B m (yp_sk t n p)) = some (yp_N (yp_cap (yp_nV t n p)), yp_cAt B m (yp_nE t n p)) := by
    rw [e2, yp_cAt2]; rfl
  have c3 := (h.at g2).1.2.1
  have f1 := yp_c_fail B (yp_cAt B m (yp_nE t n p)) 1 (yp_sk t n p)
  have f2 := yp_c_fail B (yp_cAt B m (yp_nE t n p)) 2 (yp_sk t n p)
  have q11 : yp_cap (yp_nV t n p) ≤ 100000 := by unfold yp_cap; split <;> omega
  have q12 : (yp_cap (yp_nV t n p) = yp_nV t n p ∧ yp_nV t n p < 100000) ∨ (yp_cap (yp_nV t n p) = 100000 ∧ 100000 ≤ yp_nV t n p) := by unfold yp_cap; split <;> omega
  unfold yp_nK
  by_cases k1 : yp_nE t n p = yp_sk t n p
  · rw [if_pos k1, if_neg (by decide), if_neg (by decide)]
    simp (disch := omega) only [fX8_number_j101, fX8_number_j72, fX8_number, hT, e1, e2, c3, k1, f1, Nat.reduceAdd, Nat.reduceMul, Nat.reduceSub, Nat.zero_add, Nat.add_zero, yp_LT, yp_nA, yp_nM, yp_ltF, yp_ltT, yp_leF, yp_leT, yp_eqF, eq_self, yp_eqM, yp_lt1N, yp_sbN, yp_sb2N, ↓reduceIte, ↓yp_iP11, ↓yp_iP12, ↓yp_m0P]
    rw [k1] at c3 f1
    simp (disch := omega) only [c3, f1, Nat.reduceAdd, Nat.reduceMul, Nat.reduceSub, Nat.zero_add, Nat.add_zero, yp_LT, yp_nA, yp_nM, yp_ltF, yp_ltT, yp_leF, yp_leT, yp_eqF, eq_self, yp_eqM, yp_lt1N, yp_sbN, yp_sb2N, ↓reduceIte, ↓yp_iP11, ↓yp_iP12, ↓yp_m0P]
  · have k2 : (yp_N (yp_nE t n p) = yp_N (yp_sk t n p)) = False := yp_eqF k1 (by omega) (by omega)
    rw [if_neg k1]
    by_cases k3 : lo ≤ yp_nV t n p ∧ yp_nV t n p < hi
    · have k4 : yp_cap (yp_nV t n p) = yp_nV t n p := by unfold yp_cap; rw [if_pos (by omega)]
      have k5 : (yp_N (yp_nV t n p) ≤ x2) = True := eq_true (by rw [yp_leTi, yp_tiN (by omega), hx]; omega)
      rw [if_pos k3, if_pos rfl, if_pos rfl]
      rw [k4] at e2
      simp (disch := omega) only [fX8_number_j101, fX8_number_j72, fX8_number, hT, e1, e2, c3, k2, k5, Nat.reduceAdd, Nat.reduceMul, Nat.reduceSub, Nat.zero_add, Nat.add_zero, yp_LT, yp_nA, yp_nM, yp_ltF, yp_ltT, yp_leF, yp_leT, yp_eqF, eq_self, yp_eqM, yp_lt1N, yp_sbN, yp_sb2N, ↓reduceIte, ↓yp_iP11, ↓yp_iP12, ↓yp_m0P]
    · rw [if_neg k3, if_neg (by decide), if_neg (by decide)]
      by_cases k4 : yp_cap (yp_nV t n p) < lo
      · simp (disch := omega) only [fX8_number_j101, fX8_number_j72, fX8_number, hT, e1, e2, c3, k2, f2, Nat.reduceAdd, Nat.reduceMul, Nat.reduceSub, Nat.zero_add, Nat.add_zero, yp_LT, yp_nA, yp_nM, yp_ltF, yp_ltT, yp_leF, yp_leT, yp_eqF, eq_self, yp_eqM, yp_lt1N, yp_sbN, yp_sb2N, ↓reduceIte, ↓yp_iP11, ↓yp_iP12, ↓yp_m0P]
      · have k5 : (yp_N (yp_cap (yp_nV t n p)) ≤ x2) = False := eq_false (by
          rw [yp_leTi, yp_tiN (by omega), hx]
          omega)
        simp (disch := omega) only [fX8_number_j101, fX8_number_j72, fX8_number, hT, e1, e2, c3, k2, k5, f2, Nat.reduceAdd, Nat.reduceMul, Nat.reduceSub, Nat.zero_add, Nat.add_zero, yp_LT, yp_nA, yp_nM, yp_ltF, yp_ltT, yp_leF, yp_leT, yp_eqF, eq_self, yp_eqM, yp_lt1N, yp_sbN, yp_sb2N, ↓reduceIte, ↓yp_iP11, ↓yp_iP12, ↓yp_m0P]
end TAPEC

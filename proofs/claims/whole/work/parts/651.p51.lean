def yp_spN (t : Nat → Nat) (n nf ng w e : Nat) : (Nat × Nat) × Nat × Nat × Nat × Nat :=
  if w = 5 then ((0, 0), e, 0, 0, 0)
  else if w < 2 then (yp_fa (yp_nK t n 0 nf e, yp_sk t n e) (yp_nK t n 0 ng (yp_nE t n e), yp_sk t n (yp_nE t n e)), yp_nE t n (yp_nE t n e), yp_nV t n e, yp_nV t n (yp_nE t n e), 0)
  else if w = 4 then (yp_fa (yp_fa (yp_nK t n 0 nf e, yp_sk t n e) (yp_nK t n 0 nf (yp_nE t n e), yp_sk t n (yp_nE t n e))) (yp_nK t n 0 7 (yp_nE t n (yp_nE t n e)), yp_sk t n (yp_nE t n (yp_nE t n e))), yp_nE t n (yp_nE t n (yp_nE t n e)), yp_nV t n e, yp_nV t n (yp_nE t n e), yp_nV t n (yp_nE t n (yp_nE t n e)))
  else (yp_fa (yp_fa (yp_nK t n 0 nf e, yp_sk t n e) (yp_nK t n 0 7 (yp_nE t n e), yp_sk t n (yp_nE t n e))) (yp_nK t n 1 41 (yp_nE t n (yp_nE t n e)), yp_sk t n (yp_nE t n (yp_nE t n e))), yp_nE t n (yp_nE t n (yp_nE t n e)), yp_nV t n e, yp_nV t n (yp_nE t n e), yp_nV t n (yp_nE t n (yp_nE t n e)))
def yp_spR (t : Nat → Nat) (n nf ng w e o : Nat) : yp_Rw := (w, (yp_spN t n nf ng w e).2.2.1, (yp_spN t n nf ng w e).2.2.2.1, (yp_spN t n nf ng w e).2.2.2.2, 0, o)
set_option maxHeartbeats 1000000 in
theorem yp_hx1 {k : Nat} (hk : k ≤ 1000) : (yp_N k - yp_N 1).toInt = (k : Int) - 1 := by
  rw [yp_ti_sub (by rw [yp_tiN (by omega), yp_ti1]; omega) (by rw [yp_tiN (by omega), yp_ti1]; omega), yp_tiN (by omega), yp_ti1]
set_option maxHeartbeats 1000000 in
theorem yp_w3_no {v : Nat} (h : yp_widx yp_C3 v = 7) : v ≠ 525908 ∧ v ≠ 343342 ∧ v ≠ 656741 ∧ v ≠ 239301 ∧ v ≠ 646192 ∧ v ≠ 4153 ∧ v ≠ 1279278 := by
  refine ⟨fun e => ?_, fun e => ?_, fun e => ?_, fun e => ?_, fun e => ?_, fun e => ?_, fun e => ?_⟩ <;> (rw [e] at h; exact absurd h (by decide))
set_option maxHeartbeats 1000000 in
theorem yp_stepOf1 {v : Nat} (hj : yp_widx yp_C3 v < 7) : fX12_stepOf (yp_N v) = some (yp_N (yp_widx yp_C3 v)) := by
  have hO := yp_ofS
  have hv := yp_widx_get yp_C3 (yp_widx yp_C3 v) rfl hj
  generalize yp_widx yp_C3 v = j at hj hv
  have : j = 0 ∨ j = 1 ∨ j = 2 ∨ j = 3 ∨ j = 4 ∨ j = 5 ∨ j = 6 := by omega
  rcases this with rfl | rfl | rfl | rfl | rfl | rfl | rfl
  · obtain rfl : v = 525908 := hv
    simp (disch := omega) only [fX12_stepOf_j98, fX12_stepOf, hO, Nat.reduceAdd, Nat.reduceMul, Nat.reduceSub, Nat.zero_add, Nat.add_zero, yp_LT, yp_nA, yp_nM, yp_ltF, yp_ltT, yp_leF, yp_leT, yp_eqF, eq_self, yp_eqM, yp_lt1N, yp_sbN, yp_sb2N, ↓reduceIte, ↓yp_iP11, ↓yp_iP12, ↓yp_m0P]
  · obtain rfl : v = 343342 := hv
    simp (disch := omega) only [fX12_stepOf_j98, fX12_stepOf, hO, Nat.reduceAdd, Nat.reduceMul, Nat.reduceSub, Nat.zero_add, Nat.add_zero, yp_LT, yp_nA, yp_nM, yp_ltF, yp_ltT, yp_leF, yp_leT, yp_eqF, eq_self, yp_eqM, yp_lt1N, yp_sbN, yp_sb2N, ↓reduceIte, ↓yp_iP11, ↓yp_iP12, ↓yp_m0P]
  · obtain rfl : v = 656741 := hv
    simp (disch := omega) only [fX12_stepOf_j98, fX12_stepOf, hO, Nat.reduceAdd, Nat.reduceMul, Nat.reduceSub, Nat.zero_add, Nat.add_zero, yp_LT, yp_nA, yp_nM, yp_ltF, yp_ltT, yp_leF, yp_leT, yp_eqF, eq_self, yp_eqM, yp_lt1N, yp_sbN, yp_sb2N, ↓reduceIte, ↓yp_iP11, ↓yp_iP12, ↓yp_m0P]
  · obtain rfl : v = 239301 := hv
    simp (disch := omega) only [fX12_stepOf_j98, fX12_stepOf, hO, Nat.reduceAdd, Nat.reduceMul, Nat.reduceSub, Nat.zero_add, Nat.add_zero, yp_LT, yp_nA, yp_nM, yp_ltF, yp_ltT, yp_leF, yp_leT, yp_eqF, eq_self, yp_eqM, yp_lt1N, yp_sbN, yp_sb2N, ↓reduceIte, ↓yp_iP11, ↓yp_iP12, ↓yp_m0P]
  · obtain rfl : v = 646192 := hv
    simp (disch := omega) only [fX12_stepOf_j98, fX12_stepOf, hO, Nat.reduceAdd, Nat.reduceMul, Nat.reduceSub, Nat.zero_add, Nat.add_zero, yp_LT, yp_nA, yp_nM, yp_ltF, yp_ltT, yp_leF, yp_leT, yp_eqF, eq_self, yp_eqM, yp_lt1N, yp_sbN, yp_sb2N, ↓reduceIte, ↓yp_iP11, ↓yp_iP12, ↓yp_m0P]
  · obtain rfl : v = 4153 := hv
    simp (disch := omega) only [fX12_stepOf_j98, fX12_stepOf, hO, Nat.reduceAdd, Nat.reduceMul, Nat.reduceSub, Nat.zero_add, Nat.add_zero, yp_LT, yp_nA, yp_nM, yp_ltF, yp_ltT, yp_leF, yp_leT, yp_eqF, eq_self, yp_eqM, yp_lt1N, yp_sbN, yp_sb2N, ↓reduceIte, ↓yp_iP11, ↓yp_iP12, ↓yp_m0P]
  · obtain rfl : v = 1279278 := hv
    simp (disch := omega) only [fX12_stepOf_j98, fX12_stepOf, hO, Nat.reduceAdd, Nat.reduceMul, Nat.reduceSub, Nat.zero_add, Nat.add_zero, yp_LT, yp_nA, yp_nM, yp_ltF, yp_ltT, yp_leF, yp_leT, yp_eqF, eq_self, yp_eqM, yp_lt1N, yp_sbN, yp_sb2N, ↓reduceIte, ↓yp_iP11, ↓yp_iP12, ↓yp_m0P]
set_option maxHeartbeats 1000000 in
theorem yp_stepOf0 {v : Nat} (hw : v < 1073741824) (hj : yp_widx yp_C3 v = 7) : fX12_stepOf (yp_N v) = some (-yp_N 1) := by
  have hO := yp_ofS
  obtain ⟨v1, v2, v3, v4, v5, v6, v7⟩ := yp_w3_no hj
  simp (disch := omega) only [fX12_stepOf_j98, fX12_stepOf, hO, Nat.reduceAdd, Nat.reduceMul, Nat.reduceSub, Nat.zero_add, Nat.add_zero, yp_LT, yp_nA, yp_nM, yp_ltF, yp_ltT, yp_leF, yp_leT, yp_eqF, eq_self, yp_eqM, yp_lt1N, yp_sbN, yp_sb2N, ↓reduceIte, ↓yp_iP11, ↓yp_iP12, ↓yp_m0P]
section SIMPLE
variable {B : Nat} {t : Nat → Nat} {n nf ng : Nat}
set_option maxHeartbeats 1000000 in
theorem yp_w3_len {p : Nat} (hp : p ≤ n) (h : yp_widx yp_C3 (yp_wC t n p) < 7) : yp_sk t n p + 3 ≤ yp_wE t n p := by
  have hv := yp_widx_get yp_C3 _ rfl h
  have q := ((yp_wm_code (t := t) yp_ws3 hp _ h).mpr hv).1
  generalize yp_widx yp_C3 (yp_wC t n p) = j at h q
  have := yp_wE_ge t n p
  have hj : j = 0 ∨ j = 1 ∨ j = 2 ∨ j = 3 ∨ j = 4 ∨ j = 5 ∨ j = 6 := by omega
  rcases hj with rfl | rfl | rfl | rfl | rfl | rfl | rfl
  · have q : yp_wE t n p - yp_sk t n p = 4 := q
    omega
  · have q : yp_wE t n p - yp_sk t n p = 4 := q
    omega
  · have q : yp_wE t n p - yp_sk t n p = 4 := q
    omega
  · have q : yp_wE t n p - yp_sk t n p = 4 := q
    omega
  · have q : yp_wE t n p - yp_sk t n p = 4 := q
    omega
  · have q : yp_wE t n p - yp_sk t n p = 3 := q
    omega
  · have q : yp_wE t n p - yp_sk t n p = 5 := q
    omega
set_option maxHeartbeats 1000000 in
theorem yp_spN_le {w e : Nat} (he : e ≤ n) (hn : n ≤ 150) : e ≤ (yp_spN t n nf ng w e).2.1 ∧ (yp_spN t n nf ng w e).2.1 ≤ n ∧ yp_fok (yp_spN t n nf ng w e).1 := by
  have a := yp_sk_ge t n e
  have b := yp_nE_ge t n e
  have c := yp_nE_le (t := t) he
  have d := yp_nE_le (t := t) c
  have f := yp_sk_ge t n (yp_nE t n e)
  have g := yp_nE_ge t n (yp_nE t n e)
  have h := yp_nE_le (t := t) d
  have i := yp_sk_ge t n (yp_nE t n (yp_nE t n e))
  have j := yp_nE_ge t n (yp_nE t n (yp_nE t n e))
  have hn6 : n ≤ 600 := by omega
  unfold yp_spN
  by_cases w5 : w = 5
  · rw [if_pos w5]
    dsimp only
    exact ⟨Nat.le_refl e, he, Nat.zero_le 3, Nat.zero_le 600⟩
  · rw [if_neg w5]
    by_cases w2 : w < 2
    · rw [if_pos w2]
      dsimp only
      exact ⟨by omega, d, yp_fa_ok (yp_nKs_ok he hn6 _ _) (yp_nKs_ok c hn6 _ _)⟩
    · rw [if_neg w2]
      by_cases w4 : w = 4
      · rw [if_pos w4]
        dsimp only
        exact ⟨by omega, h, yp_fa_ok (yp_fa_ok (yp_nKs_ok he hn6 _ _) (yp_nKs_ok c hn6 _ _)) (yp_nKs_ok d hn6 _ _)⟩
      · rw [if_neg w4]
        dsimp only
        exact ⟨by omega, h, yp_fa_ok (yp_fa_ok (yp_nKs_ok he hn6 _ _) (yp_nKs_ok c hn6 _ _)) (yp_nKs_ok d hn6 _ _)⟩
set_option maxHeartbeats 1000000 in
theorem yp_spN_ok {w e o b : Nat} (hw : w < 6) (h : (yp_spN t n nf ng w e).1.1 = 0) (R : Nat → yp_Rw) (k : Nat) (hk : R k = yp_spR t n nf ng w e o) : yp_rwOK nf ng o b R k := by
  unfold yp_rwOK
  rw [hk]
  unfold yp_spR
  refine ⟨Nat.le_refl o, ?_⟩
  unfold yp_spN at h ⊢
  by_cases w5 : w = 5
  · exact .inr (.inr (.inr (.inl w5)))
  · rw [if_neg w5] at h ⊢
    by_cases w2 : w < 2
    · rw [if_pos w2] at h ⊢
      obtain ⟨q1, q2, _⟩ := yp_fa0 h
      exact .inl ⟨w2, (yp_nK_0 q1).2.2, (yp_nK_0 q2).2.2⟩
    · rw [if_neg w2] at h ⊢
      by_cases w4 : w = 4
      · rw [if_pos w4] at h ⊢
        obtain ⟨q0, q3, _⟩ := yp_fa0 h
        obtain ⟨q1, q2, _⟩ := yp_fa0 q0
        exact .inr (.inr (.inl ⟨w4, (yp_nK_0 q1).2.2, (yp_nK_0 q2).2.2, (yp_nK_0 q3).2.2⟩))
      · rw [if_neg w4] at h ⊢
        obtain ⟨q0, q3, _⟩ := yp_fa0 h
        obtain ⟨q1, q2, _⟩ := yp_fa0 q0
        have q4 := yp_nK_0 q3
        exact .inr (.inl ⟨by show w = 2 ∨ w = 3; omega, (yp_nK_0 q1).2.2, (yp_nK_0 q2).2.2, q4.2.1, by have := q4.2.2; show yp_nV t n (yp_nE t n (yp_nE t n e)) ≤ 40; omega⟩)
set_option maxHeartbeats 1000000 in
theorem yp_wspS (B : Nat) : (rR (yp_SH B) 10 (B + 27) 0 = some (B + 1) ∧ rR (yp_SH B) 10 (B + 27) 1 = some (B + 3) ∧ rR (yp_SH B) 10 (B + 27) 3 = some (B + 28) ∧ rR (yp_SH B) 10 (B + 27) 4 = some (B + 29) ∧ rR (yp_SH B) 10 (B + 27) 5 = some (B + 30) ∧ rR (yp_SH B) 10 (B + 27) 6 = some (B + 31) ∧ rR (yp_SH B) 10 (B + 27) 7 = some (B + 32)) ∧ isO (yp_SH B) 10 (B + 27) = some () ∧ (∀ mm k, rI (yp_SH B) mm 10 (B + 27) k = some (mm (B + 27) k)) ∧ (∀ mm k v, wI (yp_SH B) mm 10 (B + 27) k v = some (up2 mm (B + 27) k v)) ∧ (∀ mm k, rI (yp_SH B) mm 1 (B + 3) k = some (mm (B + 3) k)) ∧ aN (yp_SH B) (B + 28) = some (yp_N 150) := by
  refine ⟨⟨?_, ?_, ?_, ?_, ?_, ?_, ?_⟩, ?_, ?_, ?_, ?_, ?_⟩
  · rw [rR, yp_so27]; rfl
  · rw [rR, yp_so27]; rfl
  · rw [rR, yp_so27]; rfl
  · rw [rR, yp_so27]; rfl
  · rw [rR, yp_so27]; rfl
  · rw [rR, yp_so27]; rfl
  · rw [rR, yp_so27]; rfl
  · rw [isO, yp_so27]; rfl
  · intro mm k; rw [rI, yp_so27]; rfl
  · intro mm k v; rw [wI, yp_so27]; rfl
  · intro mm k; rw [rI, yp_so3]; rfl
  · rw [aN, yp_sa28]; rfl
set_option maxHeartbeats 1000000 in
theorem yp_wspA (B : Nat) : (∀ mm k v, k < 150 → aS (yp_SH B) mm (B + 28) (yp_N k) v = some (up2 mm (B + 28) k v)) ∧ (∀ mm k v, k < 150 → aS (yp_SH B) mm (B + 29) (yp_N k) v = some (up2 mm (B + 29) k v)) ∧ (∀ mm k v, k < 150 → aS (yp_SH B) mm (B + 30) (yp_N k) v = some (up2 mm (B + 30) k v)) ∧ (∀ mm k v, k < 150 → aS (yp_SH B) mm (B + 31) (yp_N k) v = some (up2 mm (B + 31) k v)) ∧ (∀ mm k v, k < 150 → aS (yp_SH B) mm (B + 32) (yp_N k) v = some (up2 mm (B + 32) k v)) :=
  ⟨fun mm k v h => yp_aSN (yp_sa28 B) mm k v h (by omega), fun mm k v h => yp_aSN (yp_sa29 B) mm k v h (by omega), fun mm k v h => yp_aSN (yp_sa30 B) mm k v h (by omega), fun mm k v h => yp_aSN (yp_sa31 B) mm k v h (by omega), fun mm k v h => yp_aSN (yp_sa32 B) mm k v h (by omega)⟩
set_option maxHeartbeats 1000000 in
theorem yp_k_cell {m : Mem} {p : Nat} {a : Nat × Nat} (h : yp_CT B m t n p) (hf : yp_FL B m = yp_FLk a) (ha : yp_fok a) (lo hi : Nat) (x2 : Int32) (hx : x2.toInt = (hi : Int) - 1) (hlo : lo ≤ 1000) (hhi : hi ≤ 1000) (c l : Nat) (hc : 29 ≤ c) (hc2 : c ≤ 32) : ∃ v m1 m2, fX8_number (yp_SH B) (B + 1) (yp_N lo) x2 m = some (v, m1) ∧ m2 = up2 m1 (B + c) l v ∧ yp_CT B m2 t n (yp_nE t n p) ∧ yp_FL B m2 = yp_FLk (yp_fa a (yp_nK t n lo hi p, yp_sk t n p)) ∧ (yp_nK t n lo hi p = 0 → m2 (B + c) l = yp_N (yp_nV t n p)) ∧ (∀ b j, ¬ (b = B + 1 ∧ (j = 3 ∨ j = 4 ∨ j = 5)) → ¬ (b = B + c ∧ j = l) → m2 b j = m b j) := by
  obtain ⟨v, m1, e1, e2, e3, e4, e5⟩ := yp_k_num h hf ha lo hi x2 hx hlo hhi
  refine ⟨v, m1, _, e1, rfl, e2.fr (fun b j q => yp_up2_n _ _ (by omega)), ?_, fun k => by rw [yp_up2_s]; exact e4 k, fun b j q1 q2 => by rw [yp_up2_n _ _ (by omega)]; exact e3 b j (by unfold yp_T35; omega)⟩
  rw [← e5]
  exact yp_FL_fr (fun j q => yp_up2_n _ _ (by omega))
set_option maxHeartbeats 1000000 in
theorem yp_c_numbers {m : Mem} {p l w : Nat} (hl : l < 150) (hnf : nf ≤ 6) (hng : ng ≤ 8) (hw : w < 5) (h : yp_CT B m t n p) (hn : n ≤ 150) (hf : yp_FL B m = (yp_N 0, -yp_N 1)) (h3 : m (B + 3) 3 = yp_N nf) (h4 : m (B + 3) 4 = yp_N ng) : ∃ m', fX10_readNumbers (yp_SH B) (B + 27) (yp_N l) (yp_N w) m = some m' ∧ yp_CT B m' t n (yp_spN t n nf ng w p).2.1 ∧ yp_FL B m' = yp_FLk (yp_spN t n nf ng w p).1 ∧ (∀ b j, ¬ (b = B + 1 ∧ (j = 3 ∨ j = 4 ∨ j = 5)) → ¬ (B + 29 ≤ b ∧ b ≤ B + 31 ∧ j = l) → m' b j = m b j) ∧ ((yp_spN t n nf ng w p).1.1 = 0 → m' (B + 29) l = yp_N (yp_spN t n nf ng w p).2.2.1 ∧ m' (B + 30) l = yp_N (yp_spN t n nf ng w p).2.2.2.1 ∧ (2 ≤ w → m' (B + 31) l = yp_N (yp_spN t n nf ng w p).2.2.2.2)) := by
  have hS := yp_wspS B
  have hA := yp_wspA B
  have hT := yp_tapS B
  have hn6 : n ≤ 600 := by omega
  have hp := h.2.2.1
  have c := yp_nE_le (t := t) hp
  have d := yp_nE_le (t := t) c
  obtain ⟨v1, ma, m1, a1, a2, a3, a4, a5, a6⟩ := yp_k_cell (a := (0, 0)) h (by rw [hf]; rfl) ⟨Nat.zero_le 3, Nat.zero_le 600⟩ 0 nf (yp_N nf - yp_N 1) (yp_hx1 (by omega)) (by omega) (by omega) 29 l (by omega) (by omega)
  rw [yp_fa1 _ rfl] at a4
  have b3 : m1 (B + 3) 3 = yp_N nf := (a6 _ _ (by omega) (by omega)).trans h3
  have b4 : m1 (B + 3) 4 = yp_N ng := (a6 _ _ (by omega) (by omega)).trans h4
  unfold yp_spN
  rw [if_neg (show ¬ w = 5 by omega)]
  by_cases w2 : w < 2
  · rw [if_pos w2]
    dsimp only
    obtain ⟨v2, mb, m2, d1, d2, d3, d4, d5, d6⟩ := yp_k_cell a3 a4 (yp_nKs_ok hp hn6 _ _) 0 ng (yp_N ng - yp_N 1) (yp_hx1 (by omega)) (by omega) (by omega) 30 l (by omega) (by omega)
    refine ⟨m2, ?_, d3, d4, fun b j q1 q2 => by rw [d6 b j q1 (by omega), a6 b j q1 (by omega)], fun k => ?_⟩
    · have : w = 0 ∨ w = 1 := by omega
      rcases this with rfl | rfl
      · simp (disch := omega) only [↓yp_lt1N, fX10_readNumbers, fX10_readNumbers_j32, hS, hA, hT, h3, a1, ← a2, b4, d1, ← d2, Nat.reduceAdd, Nat.reduceMul, Nat.reduceSub, Nat.zero_add, Nat.add_zero, yp_LT, yp_nA, yp_nM, yp_ltF, yp_ltT, yp_leF, yp_leT, yp_eqF, eq_self, yp_eqM, yp_lt1N, yp_sbN, yp_sb2N, ↓reduceIte, ↓yp_iP11, ↓yp_iP12, ↓yp_m0P]
      · simp (disch := omega) only [↓yp_lt1N, fX10_readNumbers, fX10_readNumbers_j32, hS, hA, hT, h3, a1, ← a2, b4, d1, ← d2, Nat.reduceAdd, Nat.reduceMul, Nat.reduceSub, Nat.zero_add, Nat.add_zero, yp_LT, yp_nA, yp_nM, yp_ltF, yp_ltT, yp_leF, yp_leT, yp_eqF, eq_self, yp_eqM, yp_lt1N, yp_sbN, yp_sb2N, ↓reduceIte, ↓yp_iP11, ↓yp_iP12, ↓yp_m0P]
    · obtain ⟨q1, q2, _⟩ := yp_fa0 k
      exact ⟨by rw [d6 _ _ (by omega) (by omega)]; exact a5 q1, d5 q2, fun q => absurd q (by omega)⟩
  · rw [if_neg w2]
    by_cases w4 : w = 4
    · rw [if_pos w4]
      dsimp only
      subst w4
      obtain ⟨v2, mb, m2, d1, d2, d3, d4, d5, d6⟩ := yp_k_cell a3 a4 (yp_nKs_ok hp hn6 _ _) 0 nf (yp_N nf - yp_N 1) (yp_hx1 (by omega)) (by omega) (by omega) 30 l (by omega) (by omega)
      obtain ⟨v3, mc, m3, e1, e2, e3, e4, e5, e6⟩ := yp_k_cell d3 d4 (yp_fa_ok (yp_nKs_ok hp hn6 _ _) (yp_nKs_ok c hn6 _ _)) 0 7 (yp_N 6) (by rw [yp_tiN (by omega)]; omega) (by omega) (by omega) 31 l (by omega) (by omega)
      refine ⟨m3, ?_, e3, e4, fun b j q1 q2 => by rw [e6 b j q1 (by omega), d6 b j q1 (by omega), a6 b j q1 (by omega)], fun k => ?_⟩
      · simp (disch := omega) only [↓yp_lt1N, fX10_readNumbers, hS, hA, hT, h3, a1, ← a2, b3, d1, ← d2, e1, ← e2, Nat.reduceAdd, Nat.reduceMul, Nat.reduceSub, Nat.zero_add, Nat.add_zero, yp_LT, yp_nA, yp_nM, yp_ltF, yp_ltT, yp_leF, yp_leT, yp_eqF, eq_self, yp_eqM, yp_lt1N, yp_sbN, yp_sb2N, ↓reduceIte, ↓yp_iP11, ↓yp_iP12, ↓yp_m0P]
      · obtain ⟨q0, q3, _⟩ := yp_fa0 k
        obtain ⟨q1, q2, _⟩ := yp_fa0 q0
        exact ⟨by rw [e6 _ _ (by omega) (by omega), d6 _ _ (by omega) (by omega)]; exact a5 q1, by rw [e6 _ _ (by omega) (by omega)]; exact d5 q2, fun _ => e5 q3⟩
    · rw [if_neg w4]
      dsimp only
      obtain ⟨v2, mb, m2, d1, d2, d3, d4, d5, d6⟩ := yp_k_cell a3 a4 (yp_nKs_ok hp hn6 _ _) 0 7 (yp_N 6) (by rw [yp_tiN (by omega)]; omega) (by omega) (by omega) 30 l (by omega) (by omega)
      obtain ⟨v3, mc, m3, e1, e2, e3, e4, e5, e6⟩ := yp_k_cell d3 d4 (yp_fa_ok (yp_nKs_ok hp hn6 _ _) (yp_nKs_ok c hn6 _ _)) 1 41 (yp_N 40) (by rw [yp_tiN (by omega)]; omega) (by omega) (by omega) 31 l (by omega) (by omega)
      refine ⟨m3, ?_, e3, e4, fun b j q1 q2 => by rw [e6 b j q1 (by omega), d6 b j q1 (by omega), a6 b j q1 (by omega)], fun k => ?_⟩
      · have : w = 2 ∨ w = 3 := by omega
        rcases this with rfl | rfl
        · simp (disch := omega) only [↓yp_lt1N, fX10_readNumbers, hS, hA, hT, h3, a1, ← a2, b3, d1, ← d2, e1, ← e2, Nat.reduceAdd, Nat.reduceMul, Nat.reduceSub, Nat.zero_add, Nat.add_zero, yp_LT, yp_nA, yp_nM, yp_ltF, yp_ltT, yp_leF, yp_leT, yp_eqF, eq_self, yp_eqM, yp_lt1N, yp_sbN, yp_sb2N, ↓reduceIte, ↓yp_iP11, ↓yp_iP12, ↓yp_m0P]
        · simp (disch := omega) only [↓yp_lt1N, fX10_readNumbers, hS, hA, hT, h3, a1, ← a2, b3, d1, ← d2, e1, ← e2, Nat.reduceAdd, Nat.reduceMul, Nat.reduceSub, Nat.zero_add, Nat.add_zero, yp_LT, yp_nA, yp_nM, yp_ltF, yp_ltT, yp_leF, yp_leT, yp_eqF, eq_self, yp_eqM, yp_lt1N, yp_sbN, yp_sb2N, ↓reduceIte, ↓yp_iP11, ↓yp_iP12, ↓yp_m0P]
      · obtain ⟨q0, q3, _⟩ := yp_fa0 k
        obtain ⟨q1, q2, _⟩ := yp_fa0 q0
        exact ⟨by rw [e6 _ _ (by omega) (by omega), d6 _ _ (by omega) (by omega)]; exact a5 q1, by rw [e6 _ _ (by omega) (by omega)]; exact d5 q2, fun _ => e5 q3⟩
end SIMPLE

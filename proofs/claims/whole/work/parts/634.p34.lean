def yp_ctG (v : Nat → Nat) (u i a : Nat) : Nat := if v i = u then a + 1 else a
def yp_ct (v : Nat → Nat) (k u : Nat) : Nat := yp_fo (yp_ctG v u) k 0
set_option maxHeartbeats 1000000 in
theorem yp_ct_s (v : Nat → Nat) (k u : Nat) : yp_ct v (k + 1) u = if v k = u then yp_ct v k u + 1 else yp_ct v k u := rfl
set_option maxHeartbeats 1000000 in
theorem yp_ct_le (v : Nat → Nat) (u k : Nat) : yp_ct v k u ≤ k := by
  induction k with
  | zero => exact Nat.le_refl 0
  | succ k ih => rw [yp_ct_s]; split <;> omega
set_option maxHeartbeats 1000000 in
theorem yp_ct_mono (v : Nat → Nat) (u k n : Nat) (h : k ≤ n) : yp_ct v k u ≤ yp_ct v n u := by
  induction n with
  | zero => rw [show k = 0 by omega]; exact Nat.le_refl _
  | succ n ih =>
    by_cases e : k = n + 1
    · rw [e]; exact Nat.le_refl _
    · have h2 := ih (by omega)
      rw [yp_ct_s]
      split <;> omega
def yp_mxG (f : Nat → Nat) (i a : Nat) : Nat := if a < f i then f i else a
def yp_mxf (f : Nat → Nat) (k : Nat) : Nat := yp_fo (yp_mxG f) k 0
set_option maxHeartbeats 1000000 in
theorem yp_mxf_s (f : Nat → Nat) (k : Nat) : yp_mxf f (k + 1) = if yp_mxf f k < f k then f k else yp_mxf f k := rfl
set_option maxHeartbeats 1000000 in
theorem yp_mxf_le (f : Nat → Nat) (c k : Nat) : yp_mxf f k ≤ c ↔ ∀ i, i < k → f i ≤ c := by
  induction k with
  | zero => exact ⟨fun _ i hi => absurd hi (Nat.not_lt_zero i), fun _ => Nat.zero_le c⟩
  | succ k ih =>
    rw [yp_mxf_s]
    constructor
    · intro h i hi
      by_cases e : i = k
      · rw [e]; split at h <;> omega
      · exact ih.mp (by split at h <;> omega) i (by omega)
    · intro h
      have h1 := ih.mpr (fun i hi => h i (by omega))
      have h2 := h k (by omega)
      split <;> omega
set_option maxHeartbeats 1000000 in
theorem yp_ct_top (v : Nat → Nat) (n c : Nat) (h : ∀ i, i < n → yp_ct v (i + 1) (v i) ≤ c) : ∀ k, k ≤ n → ∀ u, yp_ct v k u ≤ c := by
  intro k
  induction k with
  | zero => intro _ u; exact Nat.zero_le c
  | succ k ih =>
    intro hk u
    have h1 := ih (by omega) u
    have h2 := h k (by omega)
    by_cases e : v k = u
    · rw [← e]; exact h2
    · rw [yp_ct_s, if_neg e]; exact h1
set_option maxHeartbeats 1000000 in
theorem yp_mx_eq (v : Nat → Nat) (n : Nat) : yp_mxf (fun i => yp_ct v (i + 1) (v i)) n = yp_mxf (fun i => yp_ct v n (v i)) n := by
  apply Nat.le_antisymm
  · rw [yp_mxf_le]
    intro i hi
    exact Nat.le_trans (yp_ct_mono v (v i) (i + 1) n (by omega)) ((yp_mxf_le (fun i => yp_ct v n (v i)) _ n).mp (Nat.le_refl _) i hi)
  · rw [yp_mxf_le]
    intro i hi
    exact yp_ct_top v n _ (fun i hi => (yp_mxf_le (fun i => yp_ct v (i + 1) (v i)) _ n).mp (Nat.le_refl _) i hi) n (Nat.le_refl n) (v i)
def yp_zrG (v : Nat → Nat) (j i a : Nat) : Nat := if v i = j then 0 else a
def yp_zr (v : Nat → Nat) (n k j : Nat) : Nat := yp_fo (yp_zrG v j) k (yp_ct v n j)
set_option maxHeartbeats 1000000 in
theorem yp_zr_s (v : Nat → Nat) (n k j : Nat) : yp_zr v n (k + 1) j = if v k = j then 0 else yp_zr v n k j := rfl
set_option maxHeartbeats 1000000 in
theorem yp_zr_k (v : Nat → Nat) (n j k : Nat) : yp_zr v n k j = 0 ∨ (yp_zr v n k j = yp_ct v n j ∧ yp_ct v k j = 0) := by
  induction k with
  | zero => exact .inr ⟨rfl, rfl⟩
  | succ k ih =>
    rw [yp_zr_s, yp_ct_s]
    by_cases e : v k = j
    · rw [if_pos e]; exact .inl rfl
    · rw [if_neg e, if_neg e]; exact ih
set_option maxHeartbeats 1000000 in
theorem yp_zr_n (v : Nat → Nat) (n j : Nat) : yp_zr v n n j = 0 := by
  rcases yp_zr_k v n j n with h | h
  · exact h
  · rw [h.1, h.2]
set_option maxHeartbeats 1000000 in
theorem yp_mxN {a b : Nat} (ha : a < 2147483648) (hb : b < 2147483648) : mxI (yp_N a) (yp_N b) = yp_N (if a < b then b else a) := by
  unfold mxI
  simp only [yp_ltN ha hb]
  split <;> rfl
set_option maxHeartbeats 1000000 in
theorem yp_toN {x : Int32} (h : 0 ≤ x.toInt) : x = yp_N x.toInt.toNat := by
  obtain ⟨k, h1, h2, h3⟩ := yp_ofN h
  have : k = x.toInt.toNat := by omega
  rw [← this]
  exact h1
section LOOK
variable {B : Nat} {mm : Mem} {A : yp_St}
set_option maxHeartbeats 1000000 in
theorem yp_rowV_r (hI : yp_INV A) (p : Nat × Nat) (hp : p.1 < 6) (x : Int32) : 0 ≤ (yp_rowV A p x).toInt ∧ (yp_rowV A p x).toInt ≤ 1680 := by
  have hK := hI.2.1.pH hI.1 p.1 p.2 hp
  unfold yp_rowV
  generalize yp_pH (yp_sQ A) (yp_sH A) p.1 p.2 = K at hK
  have hr := hK.row 42 (by omega)
  have hn : ∀ k, k < 42 → 0 ≤ (K (42 + k)).toInt := fun k hk => hK.nn 42 (by omega) k hk
  have key : ∀ k, k ≤ 42 → 0 ≤ (yp_fo (yp_apG K x) k (yp_N 0)).toInt ∧ (yp_fo (yp_apG K x) k (yp_N 0)).toInt ≤ yp_zs (fun k => (K (42 + k)).toInt) k := by
    intro k
    induction k with
    | zero => intro _; exact ⟨Int.le_refl 0, Int.le_refl 0⟩
    | succ k ih =>
      intro hk
      have ih := ih (by omega)
      have h1 := hn k (by omega)
      have h3 := yp_zs_add (fun k => (K (42 + k)).toInt) (k + 1) (41 - k)
      rw [show k + 1 + (41 - k) = 42 by omega] at h3
      have h4 : 0 ≤ yp_zs (fun i => (K (42 + (k + 1 + i))).toInt) (41 - k) := yp_zs_nn (fun i hi => hn (k + 1 + i) (by omega))
      have h5 : yp_zs (fun k => (K (42 + k)).toInt) (k + 1) = yp_zs (fun k => (K (42 + k)).toInt) k + (K (42 + k)).toInt := rfl
      rw [yp_fo_s]
      generalize yp_fo (yp_apG K x) k (yp_N 0) = z at ih
      unfold yp_apG
      split
      · rw [yp_ti_add (by omega) (by omega)]; omega
      · rw [yp_ti_add (by rw [yp_ti0]; omega) (by rw [yp_ti0]; omega), yp_ti0]; omega
  have := key 42 (Nat.le_refl _)
  omega
noncomputable def yp_vN (A : yp_St) (x i : Nat) : Nat := (yp_rowV A ((yp_ftL A).2 i) (yp_N x)).toInt.toNat
set_option maxHeartbeats 1000000 in
theorem yp_vN_e (hI : yp_INV A) (hO : yp_prO A 48 (yp_ftL A)) (x i : Nat) (hi : i < (yp_ftL A).1) : yp_rowV A ((yp_ftL A).2 i) (yp_N x) = yp_N (yp_vN A x i) ∧ yp_vN A x i ≤ 1680 := by
  have h := yp_rowV_r hI ((yp_ftL A).2 i) (by have := (hO.2 i hi).1; have := hI.1.1; omega) (yp_N x)
  exact ⟨yp_toN h.1, by unfold yp_vN; omega⟩
noncomputable def yp_wst (A : yp_St) (x : Nat) : Nat := yp_mxf (fun i => yp_ct (yp_vN A x) (i + 1) (yp_vN A x i)) (yp_ftL A).1
set_option maxHeartbeats 1000000 in
theorem yp_wst_le (hO : yp_prO A 48 (yp_ftL A)) (x : Nat) : yp_wst A x ≤ 48 := by
  unfold yp_wst
  rw [yp_mxf_le]
  intro i hi
  have := yp_ct_le (yp_vN A x) (yp_vN A x i) (i + 1)
  have := hO.1
  omega
set_option maxHeartbeats 1000000 in
theorem yp_c_worst {m : Mem} (v : Nat → Nat) (n x : Nat) (hn : n ≤ 48) (hx : x < 99) (hv : ∀ i, i < n → v i ≤ 1680) (h6 : m (B + 453) 6 = yp_N n) (hr : ∀ i, i < n → m (B + (461 + i)) x = yp_N (v i)) (h0 : ∀ k, k < 1681 → m (B + 509) k = yp_N 0) : fX6_leftAtWorst (yp_SH B) (B + 453) (yp_N x) m = some (yp_N (yp_mxf (fun i => yp_ct v (i + 1) (v i)) n), m) := by
  have hP := yp_prS B
  have e9 : aN (yp_SH B) (B + 509) = some (yp_N 1681) := by rw [aN, yp_sa509]; rfl
  obtain ⟨F, hF⟩ : ∃ F : Nat → Nat, F = fun i => yp_ct v (i + 1) (v i) := ⟨_, rfl⟩
  rw [← hF]
  have hFs : ∀ i, F i = yp_ct v i (v i) + 1 := fun i => by rw [hF]; exact if_pos rfl
  have hFl : ∀ k, yp_mxf F k ≤ k := fun k => by
    rw [yp_mxf_le]
    intro i hi
    have := yp_ct_le v (v i) i
    rw [hFs]
    omega
  obtain ⟨tm, htm⟩ : ∃ tm : Nat → Mem, tm = fun k a j => if a = B + 509 ∧ j < 1681 then yp_N (yp_ct v k j) else m a j := ⟨_, rfl⟩
  have t1 : ∀ k j, j < 1681 → tm k (B + 509) j = yp_N (yp_ct v k j) := fun k j hj => by rw [htm]; exact if_pos ⟨rfl, hj⟩
  have t2 : ∀ k a j, a ≠ B + 509 → tm k a j = m a j := fun k a j h => by rw [htm]; exact if_neg (fun q => h q.1)
  have t0 : tm 0 = m := by
    funext a j
    by_cases e : a = B + 509 ∧ j < 1681
    · rw [e.1, t1 0 j e.2, h0 j e.2]; rfl
    · rw [htm]; exact if_neg e
  have t3 : ∀ k, k < n → up2 (tm k) (B + 509) (v k) (yp_N (yp_ct v k (v k) + 1)) = tm (k + 1) := fun k hk => by
    funext a j
    unfold up2
    by_cases e : a = B + 509 ∧ j = v k
    · rw [if_pos e, e.1, e.2, t1 _ _ (by have := hv k hk; omega), yp_ct_s, if_pos rfl]
    · rw [if_neg e, htm]
      by_cases e2 : a = B + 509 ∧ j < 1681
      · simp only [e2, and_self, if_true]
        rw [yp_ct_s, if_neg (fun q => e ⟨e2.1, q.symm⟩)]
      · simp only [e2, if_false]
  obtain ⟨r, h1, rfl⟩ := yp_lpI (step := fun st : Int32 × Int32 × Mem => fX6_leftAtWorst_b4 (yp_SH B) (B + 453) (yp_N x) st.1 st.2.1 st.2.2) (fun k st => st = (yp_N (yp_mxf F k), yp_N k, tm k)) (fun r => r = (yp_N (yp_mxf F n), tm n)) n (fun k st hk hJ => by
    subst hJ
    have c6 : tm k (B + 453) 6 = yp_N n := (t2 _ _ _ (by omega)).trans h6
    by_cases e : k = n
    · rw [e] at c6 ⊢
      exact .inr ⟨_, by simp (disch := omega) only [fX6_leftAtWorst_b4, hP, c6, Nat.reduceAdd, Nat.reduceMul, Nat.reduceSub, Nat.zero_add, Nat.add_zero, yp_LT, yp_nA, yp_nM, yp_ltF, yp_ltT, yp_leF, yp_leT, yp_eqF, eq_self, yp_eqM, yp_lt1N, yp_sbN, yp_sb2N, ↓reduceIte, ↓yp_iP11, ↓yp_iP12, ↓yp_m0P], rfl⟩
    · have hk : k < n := by omega
      have hvk := hv k hk
      have a1 := yp_ar460 B k (by omega)
      have a2 := yp_aLN (yp_sa461 B k (by omega)) (tm k) x hx (by omega)
      rw [t2 _ _ _ (by omega), hr k hk] at a2
      have a3 := yp_aLN (yp_sa509 B) (tm k) (v k) (by omega) (by omega)
      rw [t1 k _ (by omega)] at a3
      have a4 := yp_aSN (yp_sa509 B) (tm k) (v k) (yp_N (yp_ct v k (v k) + 1)) (by omega) (by omega)
      rw [t3 k hk] at a4
      have a5 := yp_aLN (yp_sa509 B) (tm (k + 1)) (v k) (by omega) (by omega)
      rw [t1 (k + 1) _ (by omega), yp_ct_s, if_pos rfl] at a5
      have a6 : mxI (yp_N (yp_mxf F k)) (yp_N (yp_ct v k (v k) + 1)) = yp_N (yp_mxf F (k + 1)) := by
        have := hFl k
        have := yp_ct_le v (v k) k
        rw [yp_mxN (by omega) (by omega), yp_mxf_s, hFs]
      refine .inl ⟨hk, (yp_N (yp_mxf F (k + 1)), yp_N (k + 1), tm (k + 1)), ?_, rfl⟩
      simp (disch := omega) only [fX6_leftAtWorst_b4, fX6_leftAtWorst_j60, hP, c6, a1, a2, a3, a4, a5, a6, e9, Nat.reduceAdd, Nat.reduceMul, Nat.reduceSub, Nat.zero_add, Nat.add_zero, yp_LT, yp_nA, yp_nM, yp_ltF, yp_ltT, yp_leF, yp_leT, yp_eqF, eq_self, yp_eqM, yp_lt1N, yp_sbN, yp_sb2N, ↓reduceIte, ↓yp_iP11, ↓yp_iP12, ↓yp_m0P]) (show n < FU by rw [yp_FUe]; omega) (s0 := (yp_N 0, yp_N 0, m)) (by rw [t0]; rfl)
  obtain ⟨zm, hzm⟩ : ∃ zm : Nat → Mem, zm = fun k a j => if a = B + 509 ∧ j < 1681 then yp_N (yp_zr v n k j) else m a j := ⟨_, rfl⟩
  have z1 : ∀ k j, j < 1681 → zm k (B + 509) j = yp_N (yp_zr v n k j) := fun k j hj => by rw [hzm]; exact if_pos ⟨rfl, hj⟩
  have z2 : ∀ k a j, a ≠ B + 509 → zm k a j = m a j := fun k a j h => by rw [hzm]; exact if_neg (fun q => h q.1)
  have z0 : zm 0 = tm n := by rw [hzm, htm]; rfl
  have zn : zm n = m := by
    funext a j
    by_cases e : a = B + 509 ∧ j < 1681
    · rw [e.1, z1 n j e.2, h0 j e.2, yp_zr_n]
    · rw [hzm]; exact if_neg e
  have z3 : ∀ k, k < n → up2 (zm k) (B + 509) (v k) (yp_N 0) = zm (k + 1) := fun k hk => by
    funext a j
    unfold up2
    by_cases e : a = B + 509 ∧ j = v k
    · rw [if_pos e, e.1, e.2, z1 _ _ (by have := hv k hk; omega), yp_zr_s, if_pos rfl]
    · rw [if_neg e, hzm]
      by_cases e2 : a = B + 509 ∧ j < 1681
      · simp only [e2, and_self, if_true]
        rw [yp_zr_s, if_neg (fun q => e ⟨e2.1, q.symm⟩)]
      · simp only [e2, if_false]
  obtain ⟨r, h2, rfl⟩ := yp_lpI (step := fun st : Int32 × Mem => fX6_leftAtWorst_b68 (yp_SH B) (B + 453) (yp_N x) (yp_N (yp_mxf F n)) st.1 st.2) (fun k st => st = (yp_N k, zm k)) (fun r => r = zm n) n (fun k st hk hJ => by
    subst hJ
    have c6 : zm k (B + 453) 6 = yp_N n := (z2 _ _ _ (by omega)).trans h6
    by_cases e : k = n
    · rw [e] at c6 ⊢
      exact .inr ⟨_, by simp (disch := omega) only [fX6_leftAtWorst_b68, hP, c6, Nat.reduceAdd, Nat.reduceMul, Nat.reduceSub, Nat.zero_add, Nat.add_zero, yp_LT, yp_nA, yp_nM, yp_ltF, yp_ltT, yp_leF, yp_leT, yp_eqF, eq_self, yp_eqM, yp_lt1N, yp_sbN, yp_sb2N, ↓reduceIte, ↓yp_iP11, ↓yp_iP12, ↓yp_m0P], rfl⟩
    · have hk : k < n := by omega
      have hvk := hv k hk
      have a1 := yp_ar460 B k (by omega)
      have a2 := yp_aLN (yp_sa461 B k (by omega)) (zm k) x hx (by omega)
      rw [z2 _ _ _ (by omega), hr k hk] at a2
      have a4 := yp_aSN (yp_sa509 B) (zm k) (v k) (yp_N 0) (by omega) (by omega)
      rw [z3 k hk] at a4
      refine .inl ⟨hk, (yp_N (k + 1), zm (k + 1)), ?_, rfl⟩
      simp (disch := omega) only [fX6_leftAtWorst_b68, fX6_leftAtWorst_j109, hP, c6, a1, a2, a4, e9, Nat.reduceAdd, Nat.reduceMul, Nat.reduceSub, Nat.zero_add, Nat.add_zero, yp_LT, yp_nA, yp_nM, yp_ltF, yp_ltT, yp_leF, yp_leT, yp_eqF, eq_self, yp_eqM, yp_lt1N, yp_sbN, yp_sb2N, ↓reduceIte, ↓yp_iP11, ↓yp_iP12, ↓yp_m0P]) (show n < FU by rw [yp_FUe]; omega) (s0 := (yp_N 0, zm 0)) rfl
  rw [z0] at h2
  rw [zn] at h2
  simp (disch := omega) only [fX6_leftAtWorst, fX6_leftAtWorst_j66, fX6_leftAtWorst_j115, h1, h2, Nat.reduceAdd, Nat.reduceMul, Nat.reduceSub, Nat.zero_add, Nat.add_zero, yp_LT, yp_nA, yp_nM, yp_ltF, yp_ltT, yp_leF, yp_leT, yp_eqF, eq_self, yp_eqM, yp_lt1N, yp_sbN, yp_sb2N, ↓reduceIte, ↓yp_iP11, ↓yp_iP12, ↓yp_m0P]
def yp_tld (A : yp_St) (x : Nat) : Prop := ∃ i, i < yp_sL A ∧ yp_sLp A i = yp_N x
set_option maxHeartbeats 1000000 in
theorem yp_c_tells {m : Mem} (hI : yp_INV A) (hL : m (B + 17) 2 = yp_N (yp_sL A)) (hp : ∀ i, i < yp_sL A → m (B + 18) i = yp_sLp A i) (x : Nat) : (yp_tld A x ∧ fX0_tells (yp_SH B) (B + 17) (yp_N x) m = some (yp_N 1)) ∨ (¬ yp_tld A x ∧ fX0_tells (yp_SH B) (B + 17) (yp_N x) m = some (yp_N 0)) := by
  have hB := yp_bokS B
  have i8 := hI.2.2.2.2.1.1
  obtain ⟨r, h1, h2⟩ := yp_lpI (step := fun st : Int32 => fX0_tells_b2 (yp_SH B) (B + 17) (yp_N x) st m) (fun k st => st = yp_N k ∧ ∀ i, i < k → yp_sLp A i ≠ yp_N x) (fun r => (yp_tld A x ∧ r = Sum.inl ()) ∨ (¬ yp_tld A x ∧ r = Sum.inr ())) (yp_sL A) (fun k st hk hJ => by
    obtain ⟨rfl, hJ⟩ := hJ
    by_cases e : k = yp_sL A
    · subst e
      exact .inr ⟨_, by simp (disch := omega) only [fX0_tells_b2, hB, hL, Nat.reduceAdd, Nat.reduceMul, Nat.reduceSub, Nat.zero_add, Nat.add_zero, yp_LT, yp_nA, yp_nM, yp_ltF, yp_ltT, yp_leF, yp_leT, yp_eqF, eq_self, yp_eqM, yp_lt1N, yp_sbN, yp_sb2N, ↓reduceIte, ↓yp_iP11, ↓yp_iP12, ↓yp_m0P], .inr ⟨fun ⟨i, q1, q2⟩ => hJ i q1 q2, rfl⟩⟩
    · have e1 := hp k (by omega)
      by_cases c : yp_sLp A k = yp_N x
      · refine .inr ⟨Sum.inl (), ?_, .inl ⟨⟨k, by omega, c⟩, rfl⟩⟩
        rw [c] at e1
        simp (disch := omega) only [fX0_tells_b2, hB, hL, e1, Nat.reduceAdd, Nat.reduceMul, Nat.reduceSub, Nat.zero_add, Nat.add_zero, yp_LT, yp_nA, yp_nM, yp_ltF, yp_ltT, yp_leF, yp_leT, yp_eqF, eq_self, yp_eqM, yp_lt1N, yp_sbN, yp_sb2N, ↓reduceIte, ↓yp_iP11, ↓yp_iP12, ↓yp_m0P]
      · refine .inl ⟨by omega, yp_N (k + 1), ?_, rfl, fun i hi => ?_⟩
        · simp (disch := omega) only [fX0_tells_b2, hB, hL, e1, c, Nat.reduceAdd, Nat.reduceMul, Nat.reduceSub, Nat.zero_add, Nat.add_zero, yp_LT, yp_nA, yp_nM, yp_ltF, yp_ltT, yp_leF, yp_leT, yp_eqF, eq_self, yp_eqM, yp_lt1N, yp_sbN, yp_sb2N, ↓reduceIte, ↓yp_iP11, ↓yp_iP12, ↓yp_m0P]
        · by_cases e10 : i = k
          · rw [e10]; exact c
          · exact hJ i (by omega)) (show yp_sL A < FU by rw [yp_FUe]; omega) (s0 := yp_N 0) ⟨rfl, fun i hi => absurd hi (Nat.not_lt_zero i)⟩
  rcases h2 with ⟨h2, rfl⟩ | ⟨h2, rfl⟩
  · exact .inl ⟨h2, by simp (disch := omega) only [fX0_tells_j28, fX0_tells_j20, fX0_tells, h1, Sum.elim, Nat.reduceAdd, Nat.reduceMul, Nat.reduceSub, Nat.zero_add, Nat.add_zero, yp_LT, yp_nA, yp_nM, yp_ltF, yp_ltT, yp_leF, yp_leT, yp_eqF, eq_self, yp_eqM, yp_lt1N, yp_sbN, yp_sb2N, ↓reduceIte, ↓yp_iP11, ↓yp_iP12, ↓yp_m0P]⟩
  · exact .inr ⟨h2, by simp (disch := omega) only [fX0_tells_j28, fX0_tells_j20, fX0_tells, h1, Sum.elim, Nat.reduceAdd, Nat.reduceMul, Nat.reduceSub, Nat.zero_add, Nat.add_zero, yp_LT, yp_nA, yp_nM, yp_ltF, yp_ltT, yp_leF, yp_leT, yp_eqF, eq_self, yp_eqM, yp_lt1N, yp_sbN, yp_sb2N, ↓reduceIte, ↓yp_iP11, ↓yp_iP12, ↓yp_m0P]⟩
set_option maxHeartbeats 1000000 in
theorem yp_m_written {m : Mem} (hI : yp_INV A) (hL : m (B + 517) 42 = yp_N (yp_sL A)) (hp : ∀ i, i < yp_sL A → m (B + 537) (2 * i) = yp_sLp A i) (x : Nat) : (yp_tld A x ∧ fX12_isWritten (yp_SH B) (B + 517) (yp_N x) m = some (yp_N 1)) ∨ (¬ yp_tld A x ∧ fX12_isWritten (yp_SH B) (B + 517) (yp_N x) m = some (yp_N 0)) := by
  have hM := yp_mS B
  have hU := yp_refU B
  have i8 := hI.2.2.2.2.1.1
  obtain ⟨r, h1, h2⟩ := yp_lpI (step := fun st : Int32 => fX12_isWritten_b2 (yp_SH B) (B + 517) (yp_N x) st m) (fun k st => st = yp_N k ∧ ∀ i, i < k → yp_sLp A i ≠ yp_N x) (fun r => (yp_tld A x ∧ r = Sum.inl ()) ∨ (¬ yp_tld A x ∧ r = Sum.inr ())) (yp_sL A) (fun k st hk hJ => by
    obtain ⟨rfl, hJ⟩ := hJ
    by_cases e : k = yp_sL A
    · subst e
      exact .inr ⟨_, by simp (disch := omega) only [fX12_isWritten_b2, hM, hU, hL, Nat.reduceAdd, Nat.reduceMul, Nat.reduceSub, Nat.zero_add, Nat.add_zero, yp_LT, yp_nA, yp_nM, yp_ltF, yp_ltT, yp_leF, yp_leT, yp_eqF, eq_self, yp_eqM, yp_lt1N, yp_sbN, yp_sb2N, ↓reduceIte, ↓yp_iP11, ↓yp_iP12, ↓yp_m0P], .inr ⟨fun ⟨i, q1, q2⟩ => hJ i q1 q2, rfl⟩⟩
    · have e1 := hp k (by omega)
      by_cases c : yp_sLp A k = yp_N x
      · refine .inr ⟨Sum.inl (), ?_, .inl ⟨⟨k, by omega, c⟩, rfl⟩⟩
        rw [c] at e1
        simp (disch := omega) only [fX12_isWritten_b2, hM, hU, hL, e1, Nat.reduceAdd, Nat.reduceMul, Nat.reduceSub, Nat.zero_add, Nat.add_zero, yp_LT, yp_nA, yp_nM, yp_ltF, yp_ltT, yp_leF, yp_leT, yp_eqF, eq_self, yp_eqM, yp_lt1N, yp_sbN, yp_sb2N, ↓reduceIte, ↓yp_iP11, ↓yp_iP12, ↓yp_m0P]
      · refine .inl ⟨by omega, yp_N (k + 1), ?_, rfl, fun i hi => ?_⟩
        · simp (disch := omega) only [fX12_isWritten_b2, hM, hU, hL, e1, c, Nat.reduceAdd, Nat.reduceMul, Nat.reduceSub, Nat.zero_add, Nat.add_zero, yp_LT, yp_nA, yp_nM, yp_ltF, yp_ltT, yp_leF, yp_leT, yp_eqF, eq_self, yp_eqM, yp_lt1N, yp_sbN, yp_sb2N, ↓reduceIte, ↓yp_iP11, ↓yp_iP12, ↓yp_m0P]
        · by_cases e10 : i = k
          · rw [e10]; exact c
          · exact hJ i (by omega)) (show yp_sL A < FU by rw [yp_FUe]; omega) (s0 := yp_N 0) ⟨rfl, fun i hi => absurd hi (Nat.not_lt_zero i)⟩
  rcases h2 with ⟨h2, rfl⟩ | ⟨h2, rfl⟩
  · exact .inl ⟨h2, by simp (disch := omega) only [fX12_isWritten_j30, fX12_isWritten_j22, fX12_isWritten, h1, Sum.elim, Nat.reduceAdd, Nat.reduceMul, Nat.reduceSub, Nat.zero_add, Nat.add_zero, yp_LT, yp_nA, yp_nM, yp_ltF, yp_ltT, yp_leF, yp_leT, yp_eqF, eq_self, yp_eqM, yp_lt1N, yp_sbN, yp_sb2N, ↓reduceIte, ↓yp_iP11, ↓yp_iP12, ↓yp_m0P]⟩
  · exact .inr ⟨h2, by simp (disch := omega) only [fX12_isWritten_j30, fX12_isWritten_j22, fX12_isWritten, h1, Sum.elim, Nat.reduceAdd, Nat.reduceMul, Nat.reduceSub, Nat.zero_add, Nat.add_zero, yp_LT, yp_nA, yp_nM, yp_ltF, yp_ltT, yp_leF, yp_leT, yp_eqF, eq_self, yp_eqM, yp_lt1N, yp_sbN, yp_sb2N, ↓reduceIte, ↓yp_iP11, ↓yp_iP12, ↓yp_m0P]⟩
noncomputable def yp_lkG (A : yp_St) (x : Nat) (b : Int32 × Int32) : Int32 × Int32 := @ite _ (yp_tld A x) (Classical.propDecidable _) b (if b.1 = -yp_N 1 then (yp_N x, yp_N (yp_wst A x)) else if b.2 ≤ yp_N (yp_wst A x) then b else (yp_N x, yp_N (yp_wst A x)))
set_option maxHeartbeats 1000000 in
theorem yp_lkG1 {x : Nat} {b : Int32 × Int32} (h : yp_tld A x) : yp_lkG A x b = b := by unfold yp_lkG; exact if_pos h
set_option maxHeartbeats 1000000 in
theorem yp_lkG0 {x : Nat} {b : Int32 × Int32} (h : ¬ yp_tld A x) : yp_lkG A x b = (if b.1 = -yp_N 1 then (yp_N x, yp_N (yp_wst A x)) else if b.2 ≤ yp_N (yp_wst A x) then b else (yp_N x, yp_N (yp_wst A x))) := by unfold yp_lkG; exact if_neg h
set_option maxHeartbeats 1000000 in
theorem yp_c_lookL {m : Mem} (hI : yp_INV A) (hC : yp_CLc B m (yp_sQ A)) (hL : m (B + 17) 2 = yp_N (yp_sL A)) (hp : ∀ i, i < yp_sL A → m (B + 18) i = yp_sLp A i) (hF : yp_FK B m A (yp_ftL A)) (hO : yp_prO A 48 (yp_ftL A)) (h0 : ∀ k, k < 1681 → m (B + 509) k = yp_N 0) (y : Int32) : loopN (fun st : Int32 × Int32 × Int32 × Mem => fX11_look_b36 (yp_SH B) B y st.1 st.2.1 st.2.2.1 st.2.2.2) FU (-yp_N 1, -yp_N 1, yp_N 0, m) = some ((yp_fo (yp_lkG A) (yp_qw (yp_sQ A)) (-yp_N 1, -yp_N 1)).1, (yp_fo (yp_lkG A) (yp_qw (yp_sQ A)) (-yp_N 1, -yp_N 1)).2, m) := by
  have hA := yp_clsS B
  have hP := yp_prS B
  have hw := hI.1.2.2.2.1
  have c1 := hC.2.2.1
  obtain ⟨r, h1, rfl⟩ := yp_lpI (step := fun st : Int32 × Int32 × Int32 × Mem => fX11_look_b36 (yp_SH B) B y st.1 st.2.1 st.2.2.1 st.2.2.2) (fun k st => st = ((yp_fo (yp_lkG A) k (-yp_N 1, -yp_N 1)).1, (yp_fo (yp_lkG A) k (-yp_N 1, -yp_N 1)).2, yp_N k, m)) (fun r => r = ((yp_fo (yp_lkG A) (yp_qw (yp_sQ A)) (-yp_N 1, -yp_N 1)).1, (yp_fo (yp_lkG A) (yp_qw (yp_sQ A)) (-yp_N 1, -yp_N 1)).2, m)) (yp_qw (yp_sQ A)) (fun k st hk hJ => by
    subst hJ
    by_cases e : k = yp_qw (yp_sQ A)
    · rw [← e] at c1 ⊢
      exact .inr ⟨_, by simp (disch := omega) only [fX11_look_b36, hA, c1, Nat.reduceAdd, Nat.reduceMul, Nat.reduceSub, Nat.zero_add, Nat.add_zero, yp_LT, yp_nA, yp_nM, yp_ltF, yp_ltT, yp_leF, yp_leT, yp_eqF, eq_self, yp_eqM, yp_lt1N, yp_sbN, yp_sb2N, ↓reduceIte, ↓yp_iP11, ↓yp_iP12, ↓yp_m0P], rfl⟩
    · have hk : k < yp_qw (yp_sQ A) := by omega
      have w1 : fX6_leftAtWorst (yp_SH B) (B + 453) (yp_N k) m = some (yp_N (yp_wst A k), m) := yp_c_worst (yp_vN A k) (yp_ftL A).1 k hO.1 (by omega) (fun i hi => (yp_vN_e hI hO k i hi).2) hF.1 (fun i hi => (hF.2.2 i hi k (by omega)).trans (yp_vN_e hI hO k i hi).1) h0
      refine .inl ⟨hk, ((yp_fo (yp_lkG A) (k + 1) (-yp_N 1, -yp_N 1)).1, (yp_fo (yp_lkG A) (k + 1) (-yp_N 1, -yp_N 1)).2, yp_N (k + 1), m), ?_, rfl⟩
      rw [yp_fo_s]
      generalize yp_fo (yp_lkG A) k (-yp_N 1, -yp_N 1) = b
      rcases yp_c_tells hI hL hp k with ⟨t1, t2⟩ | ⟨t1, t2⟩
      · rw [yp_lkG1 t1]
        simp (disch := omega) only [fX11_look_b36, fX11_look_j91, fX11_look_j85, hA, hP, c1, t2, Nat.reduceAdd, Nat.reduceMul, Nat.reduceSub, Nat.zero_add, Nat.add_zero, yp_LT, yp_nA, yp_nM, yp_ltF, yp_ltT, yp_leF, yp_leT, yp_eqF, eq_self, yp_eqM, yp_lt1N, yp_sbN, yp_sb2N, ↓reduceIte, ↓yp_iP11, ↓yp_iP12, ↓yp_m0P]
      · rw [yp_lkG0 t1]
        by_cases e1 : b.1 = -yp_N 1
        · simp (disch := omega) only [fX11_look_b36, fX11_look_j91, fX11_look_j85, hA, hP, c1, t2, w1, e1, Nat.reduceAdd, Nat.reduceMul, Nat.reduceSub, Nat.zero_add, Nat.add_zero, yp_LT, yp_nA, yp_nM, yp_ltF, yp_ltT, yp_leF, yp_leT, yp_eqF, eq_self, yp_eqM, yp_lt1N, yp_sbN, yp_sb2N, ↓reduceIte, ↓yp_iP11, ↓yp_iP12, ↓yp_m0P]
        · by_cases e2 : b.2 ≤ yp_N (yp_wst A k)
          · simp (disch := omega) only [fX11_look_b36, fX11_look_j91, fX11_look_j85, hA, hP, c1, t2, w1, e1, e2, Nat.reduceAdd, Nat.reduceMul, Nat.reduceSub, Nat.zero_add, Nat.add_zero, yp_LT, yp_nA, yp_nM, yp_ltF, yp_ltT, yp_leF, yp_leT, yp_eqF, eq_self, yp_eqM, yp_lt1N, yp_sbN, yp_sb2N, ↓reduceIte, ↓yp_iP11, ↓yp_iP12, ↓yp_m0P]
          · simp (disch := omega) only [fX11_look_b36, fX11_look_j91, fX11_look_j85, hA, hP, c1, t2, w1, e1, e2, Nat.reduceAdd, Nat.reduceMul, Nat.reduceSub, Nat.zero_add, Nat.add_zero, yp_LT, yp_nA, yp_nM, yp_ltF, yp_ltT, yp_leF, yp_leT, yp_eqF, eq_self, yp_eqM, yp_lt1N, yp_sbN, yp_sb2N, ↓reduceIte, ↓yp_iP11, ↓yp_iP12, ↓yp_m0P]) (show yp_qw (yp_sQ A) < FU by rw [yp_FUe]; omega) (s0 := (-yp_N 1, -yp_N 1, yp_N 0, m)) rfl
  exact h1
set_option maxHeartbeats 1000000 in
theorem yp_m_worst {m : Mem} (v : Nat → Nat) (n x : Nat) (hn : n ≤ 48) (hx : x < 99) (hv : ∀ i, i < n → v i ≤ 1680) (h45 : m (B + 517) 45 = yp_N n) (hr : ∀ i, i < n → m (B + 540) (48 * x + i) = yp_N (v i)) : fX12_worstAt (yp_SH B) (B + 517) (yp_N x) m = some (yp_N (yp_mxf (fun i => yp_ct v n (v i)) n)) := by
  have hM := yp_mS B
  have hU := yp_refU B
  have in1 : ∀ a i, i < n → loopN (fun st : Int32 × Int32 => fX12_worstAt_b18 (yp_SH B) (B + 517) (yp_N x) a (yp_N i) st.1 st.2 m) FU (yp_N 0, yp_N 0) = some (yp_N (yp_ct v n (v i))) := fun a i hi => by
    refine yp_lpF (fun k a => (yp_N a, yp_N k)) (yp_ctG v (v i)) yp_N n 0 (fun k s hk hs => ?_) (fun s hs => ?_) (by rw [yp_FUe]; omega) rfl
    · have a1 := hr k hk
      have a2 := hr i hi
      have yp_b1 := hv k hk
      have b2 := hv i hi
      unfold yp_ctG
      by_cases e : v k = v i
      · simp (disch := omega) only [fX12_worstAt_b18, fX12_worstAt_j60, hM, hU, h45, a1, a2, e, Nat.reduceAdd, Nat.reduceMul, Nat.reduceSub, Nat.zero_add, Nat.add_zero, yp_LT, yp_nA, yp_nM, yp_ltF, yp_ltT, yp_leF, yp_leT, yp_eqF, eq_self, yp_eqM, yp_lt1N, yp_sbN, yp_sb2N, ↓reduceIte, ↓yp_iP11, ↓yp_iP12, ↓yp_m0P]
      · simp (disch := omega) only [fX12_worstAt_b18, fX12_worstAt_j60, hM, hU, h45, a1, a2, if_neg e, Nat.reduceAdd, Nat.reduceMul, Nat.reduceSub, Nat.zero_add, Nat.add_zero, yp_LT, yp_nA, yp_nM, yp_ltF, yp_ltT, yp_leF, yp_leT, yp_eqF, eq_self, yp_eqM, yp_lt1N, yp_sbN, yp_sb2N, ↓reduceIte, ↓yp_iP11, ↓yp_iP12, ↓yp_m0P]
    · simp (disch := omega) only [fX12_worstAt_b18, hM, h45, Nat.reduceAdd, Nat.reduceMul, Nat.reduceSub, Nat.zero_add, Nat.add_zero, yp_LT, yp_nA, yp_nM, yp_ltF, yp_ltT, yp_leF, yp_leT, yp_eqF, eq_self, yp_eqM, yp_lt1N, yp_sbN, yp_sb2N, ↓reduceIte, ↓yp_iP11, ↓yp_iP12, ↓yp_m0P]
  have bl : ∀ k, yp_mxf (fun i => yp_ct v n (v i)) k ≤ 48 := fun k => by
    rw [yp_mxf_le]
    intro i hi
    exact Nat.le_trans (yp_ct_le v (v i) n) hn
  have ou := yp_lpF (step := fun st : Int32 × Int32 => fX12_worstAt_b4 (yp_SH B) (B + 517) (yp_N x) st.1 st.2 m) (fu := FU) (t0 := (yp_N 0, yp_N 0)) (fun k a => (yp_N a, yp_N k)) (yp_mxG (fun i => yp_ct v n (v i))) yp_N n 0 (fun k s hk hs => by
    have q := in1 (yp_N s) k hk
    have hs : s = yp_mxf (fun i => yp_ct v n (v i)) k := hs
    have s1 := bl k
    rw [← hs] at s1
    have s2 := yp_ct_le v (v k) n
    unfold yp_mxG
    by_cases e : s < yp_ct v n (v k)
    · rw [if_pos e]
      simp (disch := omega) only [fX12_worstAt_b4, fX12_worstAt_j69, fX12_worstAt_j81, hM, h45, q, Nat.reduceAdd, Nat.reduceMul, Nat.reduceSub, Nat.zero_add, Nat.add_zero, yp_LT, yp_nA, yp_nM, yp_ltF, yp_ltT, yp_leF, yp_leT, yp_eqF, eq_self, yp_eqM, yp_lt1N, yp_sbN, yp_sb2N, ↓reduceIte, ↓yp_iP11, ↓yp_iP12, ↓yp_m0P]
    · rw [if_neg e]
      simp (disch := omega) only [fX12_worstAt_b4, fX12_worstAt_j69, fX12_worstAt_j81, hM, h45, q, Nat.reduceAdd, Nat.reduceMul, Nat.reduceSub, Nat.zero_add, Nat.add_zero, yp_LT, yp_nA, yp_nM, yp_ltF, yp_ltT, yp_leF, yp_leT, yp_eqF, eq_self, yp_eqM, yp_lt1N, yp_sbN, yp_sb2N, ↓reduceIte, ↓yp_iP11, ↓yp_iP12, ↓yp_m0P]) (fun s hs => by
    simp (disch := omega) only [fX12_worstAt_b4, hM, h45, Nat.reduceAdd, Nat.reduceMul, Nat.reduceSub, Nat.zero_add, Nat.add_zero, yp_LT, yp_nA, yp_nM, yp_ltF, yp_ltT, yp_leF, yp_leT, yp_eqF, eq_self, yp_eqM, yp_lt1N, yp_sbN, yp_sb2N, ↓reduceIte, ↓yp_iP11, ↓yp_iP12, ↓yp_m0P]) (by rw [yp_FUe]; omega) rfl
  simp (disch := omega) only [fX12_worstAt_j88, fX12_worstAt_j81, fX12_worstAt_j69, fX12_worstAt_j60, fX12_worstAt, ou, Nat.reduceAdd, Nat.reduceMul, Nat.reduceSub, Nat.zero_add, Nat.add_zero, yp_LT, yp_nA, yp_nM, yp_ltF, yp_ltT, yp_leF, yp_leT, yp_eqF, eq_self, yp_eqM, yp_lt1N, yp_sbN, yp_sb2N, ↓reduceIte, ↓yp_iP11, ↓yp_iP12, ↓yp_m0P]
  rfl
def yp_MT (B : Nat) (m : Mem) (A : yp_St) (k : Nat) : Prop := ∀ i, i < k → ∀ x, x < yp_qw (yp_sQ A) → m (B + 540) (48 * x + i) = yp_rowV A ((yp_ftL A).2 i) (yp_N x)
set_option maxHeartbeats 1000000 in
theorem yp_m_column {m : Mem} (hI : yp_INV A) (hC : yp_CLm B m (yp_sQ A)) (k : Nat) (hk : k < 48) (y : Int32) (hT : yp_MT B m A k) (hK : yp_HM m (B + 533) (yp_pH (yp_sQ A) (yp_sH A) ((yp_ftL A).2 k).1 ((yp_ftL A).2 k).2)) : ∃ m', loopN (fun st : Int32 × Mem => fX12_look_b59 (yp_SH B) (B + 517) y (yp_N k) st.1 st.2) FU (yp_N 0, m) = some m' ∧ yp_MT B m' A (k + 1) ∧ yp_Fr (fun a _ => a = B + 540) m m' := by
  have hM := yp_mS B
  have hU := yp_refU B
  have hw := hI.1.2.2.2.1
  obtain ⟨m', h1, h2, h3, h4⟩ := yp_lpI (step := fun st : Int32 × Mem => fX12_look_b59 (yp_SH B) (B + 517) y (yp_N k) st.1 st.2) (fun p st => ∃ m1, st = (yp_N p, m1) ∧ yp_MT B m1 A k ∧ (∀ x, x < p → m1 (B + 540) (48 * x + k) = yp_rowV A ((yp_ftL A).2 k) (yp_N x)) ∧ yp_Fr (fun a _ => a = B + 540) m m1) (fun m1 => yp_MT B m1 A k ∧ (∀ x, x < yp_qw (yp_sQ A) → m1 (B + 540) (48 * x + k) = yp_rowV A ((yp_ftL A).2 k) (yp_N x)) ∧ yp_Fr (fun a _ => a = B + 540) m m1) (yp_qw (yp_sQ A)) (fun p st hp hJ => by
    obtain ⟨m1, rfl, j1, j2, j3⟩ := hJ
    have c1 : m1 (B + 517) 19 = yp_N (yp_qw (yp_sQ A)) := (j3 _ _ (by omega)).trans hC.2.2.1
    by_cases e : p = yp_qw (yp_sQ A)
    · rw [← e] at c1 ⊢
      exact .inr ⟨m1, by simp (disch := omega) only [fX12_look_b59, hM, c1, Nat.reduceAdd, Nat.reduceMul, Nat.reduceSub, Nat.zero_add, Nat.add_zero, yp_LT, yp_nA, yp_nM, yp_ltF, yp_ltT, yp_leF, yp_leT, yp_eqF, eq_self, yp_eqM, yp_lt1N, yp_sbN, yp_sb2N, ↓reduceIte, ↓yp_iP11, ↓yp_iP12, ↓yp_m0P], j1, j2, j3⟩
    · have hp : p < yp_qw (yp_sQ A) := by omega
      have hK1 : yp_HM m1 (B + 533) (yp_pH (yp_sQ A) (yp_sH A) ((yp_ftL A).2 k).1 ((yp_ftL A).2 k).2) := hK.same (fun j => j3 _ j (by omega))
      have a1 : fX12_atPlace (yp_SH B) (B + 517) (yp_N p) m1 = some (yp_rowV A ((yp_ftL A).2 k) (yp_N p)) := yp_m_atp hK1 (yp_N p)
      refine .inl ⟨hp, (yp_N (p + 1), up2 m1 (B + 540) (48 * p + k) (yp_rowV A ((yp_ftL A).2 k) (yp_N p))), ?_, _, rfl, fun i hi x hx => ?_, fun x hx => ?_, j3.up rfl⟩
      · simp (disch := omega) only [fX12_look_b59, hM, hU, c1, a1, Nat.reduceAdd, Nat.reduceMul, Nat.reduceSub, Nat.zero_add, Nat.add_zero, yp_LT, yp_nA, yp_nM, yp_ltF, yp_ltT, yp_leF, yp_leT, yp_eqF, eq_self, yp_eqM, yp_lt1N, yp_sbN, yp_sb2N, ↓reduceIte, ↓yp_iP11, ↓yp_iP12, ↓yp_m0P]
      · rw [yp_up2_n _ _ (by omega)]
        exact j1 i hi x hx
      · by_cases e2 : x = p
        · rw [e2, yp_up2_s]
        · rw [yp_up2_n _ _ (by omega)]
          exact j2 x (by omega)) (show yp_qw (yp_sQ A) < FU by rw [yp_FUe]; omega) (s0 := (yp_N 0, m)) ⟨m, rfl, hT, fun x hx => absurd hx (Nat.not_lt_zero x), yp_Fr.rf⟩
  refine ⟨m', h1, fun i hi x hx => ?_, h4⟩
  by_cases e : i = k
  · rw [e]; exact h3 x hx
  · exact h2 i (by omega) x hx
set_option maxHeartbeats 1000000 in
theorem yp_m_table {m m1 : Mem} (hR : yp_RMm B m A) (hI : yp_INV A) (hO : yp_prO A 48 (yp_ftL A)) (hF : yp_MK B m1 (yp_ftL A)) (hT : yp_Fr (yp_TW B) m m1) (y : Int32) : ∃ m', loopN (fun st : Int32 × Mem => fX12_look_b28 (yp_SH B) (B + 517) y st.1 st.2) FU (yp_N 0, m1) = some m' ∧ yp_MK B m' (yp_ftL A) ∧ yp_MT B m' A (yp_ftL A).1 ∧ yp_Fr (yp_TW B) m m' := by
  have hM := yp_mS B
  have hU := yp_refU B
  have hq := hI.1.1
  have o1 := hO.1
  obtain ⟨m', h1, h2, h3, h4⟩ := yp_lpI (step := fun st : Int32 × Mem => fX12_look_b28 (yp_SH B) (B + 517) y st.1 st.2) (fun k st => ∃ m2, st = (yp_N k, m2) ∧ yp_MK B m2 (yp_ftL A) ∧ yp_MT B m2 A k ∧ yp_Fr (yp_TW B) m m2) (fun m2 => yp_MK B m2 (yp_ftL A) ∧ yp_MT B m2 A (yp_ftL A).1 ∧ yp_Fr (yp_TW B) m m2) (yp_ftL A).1 (fun k st hk hJ => by
    obtain ⟨m2, rfl, j1, j2, j3⟩ := hJ
    have c1 := j1.1
    by_cases e : k = (yp_ftL A).1
    · rw [← e] at c1 ⊢
      exact .inr ⟨m2, by simp (disch := omega) only [fX12_look_b28, hM, c1, Nat.reduceAdd, Nat.reduceMul, Nat.reduceSub, Nat.zero_add, Nat.add_zero, yp_LT, yp_nA, yp_nM, yp_ltF, yp_ltT, yp_leF, yp_leT, yp_eqF, eq_self, yp_eqM, yp_lt1N, yp_sbN, yp_sb2N, ↓reduceIte, ↓yp_iP11, ↓yp_iP12, ↓yp_m0P], j1, j2, j3⟩
    · have hk : k < (yp_ftL A).1 := by omega
      have hC2 : yp_CLm B m2 (yp_sQ A) := hR.1.fr (fun a j h => j3 a j (by unfold yp_TW; omega))
      have hN2 : yp_HM m2 (B + 532) (yp_sH A) := hR.2.1.same (fun j => j3 _ j (by unfold yp_TW; omega))
      have ok := hO.2 k hk
      obtain ⟨m3, m4, v, g1, g2, g3, g4, g5⟩ := yp_m_pairs hI hC2 hN2 ((yp_ftL A).2 k).1 ((yp_ftL A).2 k).2 (by omega) ok.2
      have d1 : m3 (B + 538) k = yp_N ((yp_ftL A).2 k).1 := (g4 _ _ (by unfold yp_TQ; omega)).trans (j1.2 k hk).1
      have d2 : m3 (B + 539) k = yp_N ((yp_ftL A).2 k).2 := (g4 _ _ (by unfold yp_TQ; omega)).trans (j1.2 k hk).2
      have hC4 : yp_CLm B m4 (yp_sQ A) := hC2.fr (fun a j h => g5 a j (by unfold yp_TQ; omega))
      have t4 : yp_MT B m4 A k := fun i hi x hx => (g5 _ _ (by unfold yp_TQ; omega)).trans (j2 i hi x hx)
      obtain ⟨m5, k1, k2, k3⟩ := yp_m_column hI hC4 k (by omega) y t4 g3
      have f5 : yp_Fr (yp_TW B) m2 m5 := yp_Fr.tr (g5.mono (fun a j h => by unfold yp_TQ at h; unfold yp_TW; omega)) (k3.mono (fun a j h => by unfold yp_TW; omega))
      refine .inl ⟨hk, (yp_N (k + 1), m5), ?_, m5, rfl, ⟨?_, fun i hi => ⟨?_, ?_⟩⟩, k2, j3.tr f5⟩
      · simp (disch := omega) only [fX12_look_b28, fX12_look_j89, hM, hU, c1, g1, d1, d2, g2, k1, Nat.reduceAdd, Nat.reduceMul, Nat.reduceSub, Nat.zero_add, Nat.add_zero, yp_LT, yp_nA, yp_nM, yp_ltF, yp_ltT, yp_leF, yp_leT, yp_eqF, eq_self, yp_eqM, yp_lt1N, yp_sbN, yp_sb2N, ↓reduceIte, ↓yp_iP11, ↓yp_iP12, ↓yp_m0P]
      · rw [k3 _ _ (by omega), g5 _ _ (by unfold yp_TQ; omega)]; exact j1.1
      · rw [k3 _ _ (by omega), g5 _ _ (by unfold yp_TQ; omega)]; exact (j1.2 i hi).1
      · rw [k3 _ _ (by omega), g5 _ _ (by unfold yp_TQ; omega)]; exact (j1.2 i hi).2) (show (yp_ftL A).1 < FU by rw [yp_FUe]; omega) (s0 := (yp_N 0, m1)) ⟨m1, rfl, hF, fun i hi => absurd hi (Nat.not_lt_zero i), hT⟩
  exact ⟨m', h1, h2, h3, h4⟩
set_option maxHeartbeats 1000000 in
theorem yp_m_lookL {m : Mem} (hI : yp_INV A) (hC : yp_CLm B m (yp_sQ A)) (hL : m (B + 517) 42 = yp_N (yp_sL A)) (hp : ∀ i, i < yp_sL A → m (B + 537) (2 * i) = yp_sLp A i) (hF : yp_MK B m (yp_ftL A)) (hT : yp_MT B m A (yp_ftL A).1) (hO : yp_prO A 48 (yp_ftL A)) (y : Int32) : loopN (fun st : Int32 × Int32 × Int32 => fX12_look_b102 (yp_SH B) (B + 517) y st.1 st.2.1 st.2.2 m) FU (-yp_N 1, -yp_N 1, yp_N 0) = some ((yp_fo (yp_lkG A) (yp_qw (yp_sQ A)) (-yp_N 1, -yp_N 1)).1, (yp_fo (yp_lkG A) (yp_qw (yp_sQ A)) (-yp_N 1, -yp_N 1)).2) := by
  have hM := yp_mS B
  have hw := hI.1.2.2.2.1
  have c1 := hC.2.2.1
  obtain ⟨r, h1, rfl⟩ := yp_lpI (step := fun st : Int32 × Int32 × Int32 => fX12_look_b102 (yp_SH B) (B + 517) y st.1 st.2.1 st.2.2 m) (fun k st => st = ((yp_fo (yp_lkG A) k (-yp_N 1, -yp_N 1)).1, (yp_fo (yp_lkG A) k (-yp_N 1, -yp_N 1)).2, yp_N k)) (fun r => r = ((yp_fo (yp_lkG A) (yp_qw (yp_sQ A)) (-yp_N 1, -yp_N 1)).1, (yp_fo (yp_lkG A) (yp_qw (yp_sQ A)) (-yp_N 1, -yp_N 1)).2)) (yp_qw (yp_sQ A)) (fun k st hk hJ => by
    subst hJ
    by_cases e : k = yp_qw (yp_sQ A)
    · rw [← e] at c1 ⊢
      exact .inr ⟨_, by simp (disch := omega) only [fX12_look_b102, hM, c1, Nat.reduceAdd, Nat.reduceMul, Nat.reduceSub, Nat.zero_add, Nat.add_zero, yp_LT, yp_nA, yp_nM, yp_ltF, yp_ltT, yp_leF, yp_leT, yp_eqF, eq_self, yp_eqM, yp_lt1N, yp_sbN, yp_sb2N, ↓reduceIte, ↓yp_iP11, ↓yp_iP12, ↓yp_m0P], rfl⟩
    · have hk : k < yp_qw (yp_sQ A) := by omega
      have w1 : fX12_worstAt (yp_SH B) (B + 517) (yp_N k) m = some (yp_N (yp_wst A k)) := by
        have := yp_m_worst (B := B) (m := m) (yp_vN A k) (yp_ftL A).1 k hO.1 (by omega) (fun i hi => (yp_vN_e hI hO k i hi).2) hF.1 (fun i hi => (hT i hi k hk).trans (yp_vN_e hI hO k i hi).1)
        rw [← yp_mx_eq] at this
        exact this
      have w2 := yp_wst_le hO k
      refine .inl ⟨hk, ((yp_fo (yp_lkG A) (k + 1) (-yp_N 1, -yp_N 1)).1, (yp_fo (yp_lkG A) (k + 1) (-yp_N 1, -yp_N 1)).2, yp_N (k + 1)), ?_, rfl⟩
      rw [yp_fo_s]
      generalize yp_fo (yp_lkG A) k (-yp_N 1, -yp_N 1) = b
      rcases yp_m_written hI hL hp k with ⟨t1, t2⟩ | ⟨t1, t2⟩
      · rw [yp_lkG1 t1]
        simp (disch := omega) only [fX12_look_b102, fX12_look_j130, fX12_look_j158, fX12_look_j152, hM, c1, t2, Nat.reduceAdd, Nat.reduceMul, Nat.reduceSub, Nat.zero_add, Nat.add_zero, yp_LT, yp_nA, yp_nM, yp_ltF, yp_ltT, yp_leF, yp_leT, yp_eqF, eq_self, yp_eqM, yp_lt1N, yp_sbN, yp_sb2N, ↓reduceIte, ↓yp_iP11, ↓yp_iP12, ↓yp_m0P]
      · rw [yp_lkG0 t1]
        by_cases e1 : b.1 = -yp_N 1
        · simp (disch := omega) only [fX12_look_b102, fX12_look_j130, fX12_look_j158, fX12_look_j152, hM, c1, t2, w1, e1, Nat.reduceAdd, Nat.reduceMul, Nat.reduceSub, Nat.zero_add, Nat.add_zero, yp_LT, yp_nA, yp_nM, yp_ltF, yp_ltT, yp_leF, yp_leT, yp_eqF, eq_self, yp_eqM, yp_lt1N, yp_sbN, yp_sb2N, ↓reduceIte, ↓yp_iP11, ↓yp_iP12, ↓yp_m0P]
        · by_cases e2 : b.2 ≤ yp_N (yp_wst A k)
          · simp (disch := omega) only [fX12_look_b102, fX12_look_j130, fX12_look_j158, fX12_look_j152, hM, c1, t2, w1, e1, e2, Int32.not_lt.mpr e2, Nat.reduceAdd, Nat.reduceMul, Nat.reduceSub, Nat.zero_add, Nat.add_zero, yp_LT, yp_nA, yp_nM, yp_ltF, yp_ltT, yp_leF, yp_leT, yp_eqF, eq_self, yp_eqM, yp_lt1N, yp_sbN, yp_sb2N, ↓reduceIte, ↓yp_iP11, ↓yp_iP12, ↓yp_m0P]
          · simp (disch := omega) only [fX12_look_b102, fX12_look_j130, fX12_look_j158, fX12_look_j152, hM, c1, t2, w1, e1, e2, Int32.not_le.mp e2, Nat.reduceAdd, Nat.reduceMul, Nat.reduceSub, Nat.zero_add, Nat.add_zero, yp_LT, yp_nA, yp_nM, yp_ltF, yp_ltT, yp_leF, yp_leT, yp_eqF, eq_self, yp_eqM, yp_lt1N, yp_sbN, yp_sb2N, ↓reduceIte, ↓yp_iP11, ↓yp_iP12, ↓yp_m0P]) (show yp_qw (yp_sQ A) < FU by rw [yp_FUe]; omega) (s0 := (-yp_N 1, -yp_N 1, yp_N 0)) rfl
  exact h1
set_option maxHeartbeats 1000000 in
theorem yp_p_look (hR : yp_RCc B mm A) (hI : yp_INV A) (x : Int32) : yp_PM B (fX11_look (yp_SH B) B x mm) (fun m => fX12_look (yp_SH B) (B + 517) x m) hcI mm A := by
  have hA := yp_clsS B
  have hP := yp_prS B
  have hM := yp_mS B
  have hn := @yp_nd1 B mm
  have h0 := @yp_nd0 B mm A hR
  rcases yp_rng x 1 (by omega) with ⟨k, hk, rfl⟩ | h | h
  rotate_left
  · exact yp_PM_e1 hR hI (by simp (disch := omega) only [fX11_look_j106, fX11_look_j97, fX11_look_j91, fX11_look_j85, fX11_look_j15, fX11_look_j10, fX11_look, hA, ↓h0, yp_lt_ne h, ↓yp_smLN, ↓yp_smRN, Nat.reduceAdd, Nat.reduceMul, Nat.reduceSub, Nat.zero_add, Nat.add_zero, yp_LT, yp_nA, yp_nM, yp_ltF, yp_ltT, yp_leF, yp_leT, yp_eqF, eq_self, yp_eqM, yp_lt1N, yp_sbN, yp_sb2N, ↓reduceIte, ↓yp_iP11, ↓yp_iP12, ↓yp_m0P]) (fun m hm => by simp (disch := omega) only [fX12_look, hM, yp_m0e, ↓yp_wiP, h, yp_may11, Nat.reduceAdd, Nat.reduceMul, Nat.reduceSub, Nat.zero_add, Nat.add_zero, yp_LT, yp_nA, yp_nM, yp_ltF, yp_ltT, yp_leF, yp_leT, yp_eqF, eq_self, yp_eqM, yp_lt1N, yp_sbN, yp_sb2N, ↓reduceIte, ↓yp_iP11, ↓yp_iP12, ↓yp_m0P]) rfl yp_n1
  · exact yp_PM_e1 hR hI (by simp (disch := omega) only [fX11_look_j106, fX11_look_j97, fX11_look_j91, fX11_look_j85, fX11_look_j15, fX11_look_j10, fX11_look, hA, ↓h0, yp_gt_ne h, ↓yp_smLN, ↓yp_smRN, Nat.reduceAdd, Nat.reduceMul, Nat.reduceSub, Nat.zero_add, Nat.add_zero, yp_LT, yp_nA, yp_nM, yp_ltF, yp_ltT, yp_leF, yp_leT, yp_eqF, eq_self, yp_eqM, yp_lt1N, yp_sbN, yp_sb2N, ↓reduceIte, ↓yp_iP11, ↓yp_iP12, ↓yp_m0P]) (fun m hm => by simp (disch := omega) only [fX12_look, hM, yp_m0e, ↓yp_wiP, h, yp_may11, Nat.reduceAdd, Nat.reduceMul, Nat.reduceSub, Nat.zero_add, Nat.add_zero, yp_LT, yp_nA, yp_nM, yp_ltF, yp_ltT, yp_leF, yp_leT, yp_eqF, eq_self, yp_eqM, yp_lt1N, yp_sbN, yp_sb2N, ↓reduceIte, ↓yp_iP11, ↓yp_iP12, ↓yp_m0P]) rfl yp_n1
  obtain ⟨m1, g1, g2, g3, g4⟩ := yp_c_gather hR hI
  have hC1 : yp_CLc B m1 (yp_sQ A) := hR.1.fr (fun a j h => g4 a j (by unfold yp_TG; omega))
  have yp_b1 := hR.2.2.2.2.1
  have l1 := yp_c_lookL hI hC1 ((g4 _ _ (by unfold yp_TG; omega)).trans yp_b1.1) (fun i hi => (g4 _ _ (by unfold yp_TG; omega)).trans (yp_b1.2.1 i hi)) g2 g3 (fun k hk => (g4 _ _ (by unfold yp_TG; omega)).trans (hR.2.2.2.2.2.2.2 k hk)) (yp_N k)
  have goR : ∀ m, yp_RMm B m A → ∃ m2 m3, fX12_laysFits (yp_SH B) (B + 517) (yp_m0 B m) = some m2 ∧ loopN (fun st : Int32 × Mem => fX12_look_b28 (yp_SH B) (B + 517) (yp_N k) st.1 st.2) FU (yp_N 0, m2) = some m3 ∧ loopN (fun st : Int32 × Int32 × Int32 => fX12_look_b102 (yp_SH B) (B + 517) (yp_N k) st.1 st.2.1 st.2.2 m3) FU (-yp_N 1, -yp_N 1, yp_N 0) = some ((yp_fo (yp_lkG A) (yp_qw (yp_sQ A)) (-yp_N 1, -yp_N 1)).1, (yp_fo (yp_lkG A) (yp_qw (yp_sQ A)) (-yp_N 1, -yp_N 1)).2) ∧ yp_FM B m m3 := fun m hm => by
    have hm0 := yp_m0R hm
    obtain ⟨m2, a1, a2, a3⟩ := yp_m_lays hm0 hI
    obtain ⟨m3, d1, d2, d3, d4⟩ := yp_m_table hm0 hI g3 a2 a3 (yp_N k)
    have hC3 : yp_CLm B m3 (yp_sQ A) := hm0.1.fr (fun a j h => d4 a j (by unfold yp_TW; omega))
    have b3 := hm0.2.2.2.2.1
    exact ⟨m2, m3, a1, d1, yp_m_lookL hI hC3 ((d4 _ _ (by unfold yp_TW; omega)).trans b3.1) (fun i hi => (d4 _ _ (by unfold yp_TW; omega)).trans (b3.2.1 i hi)) d2 d3 g3 (yp_N k), yp_FM.tw d4⟩
  generalize yp_fo (yp_lkG A) (yp_qw (yp_sQ A)) (-yp_N 1, -yp_N 1) = b at l1 goR
  rcases yp_z01 hk with rfl | rfl
  · refine yp_PM_v hR hI (v := b.1) (m1 := m1) ?_ (yp_FC.tg g4) (fun m hm => ?_)
    · simp (disch := omega) only [fX11_look_j106, fX11_look_j97, fX11_look_j91, fX11_look_j85, fX11_look_j15, fX11_look_j10, fX11_look, hA, hP, ↓hn, ↓yp_smLN, ↓yp_smRN, g1, l1, Nat.reduceAdd, Nat.reduceMul, Nat.reduceSub, Nat.zero_add, Nat.add_zero, yp_LT, yp_nA, yp_nM, yp_ltF, yp_ltT, yp_leF, yp_leT, yp_eqF, eq_self, yp_eqM, yp_lt1N, yp_sbN, yp_sb2N, ↓reduceIte, ↓yp_iP11, ↓yp_iP12, ↓yp_m0P]
    · obtain ⟨m2, m3, a1, a2, a3, a4⟩ := goR m hm
      exact ⟨m3, by simp (disch := omega) only [fX12_look, fX12_look_j95, fX12_look_j164, fX12_look_j173, hM, yp_m0e, ↓yp_wiP, yp_mayG, a1, a2, a3, Nat.reduceAdd, Nat.reduceMul, Nat.reduceSub, Nat.zero_add, Nat.add_zero, yp_LT, yp_nA, yp_nM, yp_ltF, yp_ltT, yp_leF, yp_leT, yp_eqF, eq_self, yp_eqM, yp_lt1N, yp_sbN, yp_sb2N, ↓reduceIte, ↓yp_iP11, ↓yp_iP12, ↓yp_m0P], a4⟩
  · refine yp_PM_v hR hI (v := b.2) (m1 := m1) ?_ (yp_FC.tg g4) (fun m hm => ?_)
    · simp (disch := omega) only [fX11_look_j106, fX11_look_j97, fX11_look_j91, fX11_look_j85, fX11_look_j15, fX11_look_j10, fX11_look, hA, hP, ↓hn, ↓yp_smLN, ↓yp_smRN, g1, l1, Nat.reduceAdd, Nat.reduceMul, Nat.reduceSub, Nat.zero_add, Nat.add_zero, yp_LT, yp_nA, yp_nM, yp_ltF, yp_ltT, yp_leF, yp_leT, yp_eqF, eq_self, yp_eqM, yp_lt1N, yp_sbN, yp_sb2N, ↓reduceIte, ↓yp_iP11, ↓yp_iP12, ↓yp_m0P]
    · obtain ⟨m2, m3, a1, a2, a3, a4⟩ := goR m hm
      exact ⟨m3, by simp (disch := omega) only [fX12_look, fX12_look_j95, fX12_look_j164, fX12_look_j173, hM, yp_m0e, ↓yp_wiP, yp_mayG, a1, a2, a3, Nat.reduceAdd, Nat.reduceMul, Nat.reduceSub, Nat.zero_add, Nat.add_zero, yp_LT, yp_nA, yp_nM, yp_ltF, yp_ltT, yp_leF, yp_leT, yp_eqF, eq_self, yp_eqM, yp_lt1N, yp_sbN, yp_sb2N, ↓reduceIte, ↓yp_iP11, ↓yp_iP12, ↓yp_m0P], a4⟩
end LOOK

section STATE
variable {B : Nat} {mm : Mem} {A : yp_St}
def yp_PV (B : Nat) (f : Option (Int32 × Mem)) (g : Mem → Option (Int32 × Mem)) (mm : Mem) (A : yp_St) : Prop := ∃ v A' m1, yp_INV A' ∧ f = some (v, m1) ∧ yp_RCc B m1 A' ∧ (∀ a j, B + 517 ≤ a → m1 a j = mm a j) ∧ ∀ m, yp_RMm B m A → ∃ m2, g m = some (v, m2) ∧ yp_RMm B m2 A' ∧ ∀ a j, a < B + 517 ∨ B + 542 ≤ a → m2 a j = m a j
set_option maxHeartbeats 1000000 in
theorem yp_PV_no {f : Option (Int32 × Mem)} {g : Mem → Option (Int32 × Mem)} {v : Int32} (hR : yp_RCc B mm A) (hI : yp_INV A) (h1 : f = some (v, mm)) (h2 : ∀ m, yp_RMm B m A → g m = some (v, yp_m0 B m)) : yp_PV B f g mm A :=
  ⟨v, A, mm, hI, h1, hR, fun _ _ _ => rfl, fun m hm => ⟨yp_m0 B m, h2 m hm, yp_m0R hm, fun a j h => yp_m0n (by omega)⟩⟩
set_option maxHeartbeats 1000000 in
theorem yp_aRN {sh : Shp} {a t n : Nat} {r : Nat → Option Nat} (h : sh a = some (.inr (.inr (t, n, r)))) (ht : t < 3) {k : Nat} (hk : k < n) (hn : k < 2147483648) : aR sh a (yp_N k) = r k := by
  simp only [aR, h, yp_tcN hn]
  rw [if_neg]
  rintro (h2 | h2 | h2)
  · exact yp_nnN hn h2
  · omega
  · omega
set_option maxHeartbeats 1000000 in
theorem yp_ar40 (B j : Nat) (hj : j < 16) : aR (yp_SH B) (B + 40) (yp_N j) = some (B + (41 + 6 * j)) := by
  rw [yp_aRN (yp_st40 B) (by omega) hj (by omega)]
  match j, hj with
  | 0, _ => rfl
  | 1, _ => rfl
  | 2, _ => rfl
  | 3, _ => rfl
  | 4, _ => rfl
  | 5, _ => rfl
  | 6, _ => rfl
  | 7, _ => rfl
  | 8, _ => rfl
  | 9, _ => rfl
  | 10, _ => rfl
  | 11, _ => rfl
  | 12, _ => rfl
  | 13, _ => rfl
  | 14, _ => rfl
  | 15, _ => rfl
  | n + 16, h => exact absurd h (by omega)
set_option maxHeartbeats 1000000 in
theorem yp_ar146 (B j : Nat) (hj : j < 16) : aR (yp_SH B) (B + 146) (yp_N j) = some (B + (147 + 6 * j)) := by
  rw [yp_aRN (yp_st146 B) (by omega) hj (by omega)]
  match j, hj with
  | 0, _ => rfl
  | 1, _ => rfl
  | 2, _ => rfl
  | 3, _ => rfl
  | 4, _ => rfl
  | 5, _ => rfl
  | 6, _ => rfl
  | 7, _ => rfl
  | 8, _ => rfl
  | 9, _ => rfl
  | 10, _ => rfl
  | 11, _ => rfl
  | 12, _ => rfl
  | 13, _ => rfl
  | 14, _ => rfl
  | 15, _ => rfl
  | n + 16, h => exact absurd h (by omega)
set_option maxHeartbeats 1000000 in
theorem yp_ar251 (B j : Nat) (hj : j < 16) : aR (yp_SH B) (B + 251) (yp_N j) = some (B + (252 + 6 * j)) := by
  rw [yp_aRN (yp_st251 B) (by omega) hj (by omega)]
  match j, hj with
  | 0, _ => rfl
  | 1, _ => rfl
  | 2, _ => rfl
  | 3, _ => rfl
  | 4, _ => rfl
  | 5, _ => rfl
  | 6, _ => rfl
  | 7, _ => rfl
  | 8, _ => rfl
  | 9, _ => rfl
  | 10, _ => rfl
  | 11, _ => rfl
  | 12, _ => rfl
  | 13, _ => rfl
  | 14, _ => rfl
  | 15, _ => rfl
  | n + 16, h => exact absurd h (by omega)
set_option maxHeartbeats 1000000 in
theorem yp_ar356 (B j : Nat) (hj : j < 16) : aR (yp_SH B) (B + 356) (yp_N j) = some (B + (357 + 6 * j)) := by
  rw [yp_aRN (yp_st356 B) (by omega) hj (by omega)]
  match j, hj with
  | 0, _ => rfl
  | 1, _ => rfl
  | 2, _ => rfl
  | 3, _ => rfl
  | 4, _ => rfl
  | 5, _ => rfl
  | 6, _ => rfl
  | 7, _ => rfl
  | 8, _ => rfl
  | 9, _ => rfl
  | 10, _ => rfl
  | 11, _ => rfl
  | 12, _ => rfl
  | 13, _ => rfl
  | 14, _ => rfl
  | 15, _ => rfl
  | n + 16, h => exact absurd h (by omega)
set_option maxHeartbeats 1000000 in
theorem yp_ar137 (B j : Nat) (hj : j < 3) : aR (yp_SH B) (B + 137) (yp_N j) = some (B + (138 + 105 * j)) := by
  rw [yp_aRN (yp_st137 B) (by omega) hj (by omega)]
  match j, hj with
  | 0, _ => rfl
  | 1, _ => rfl
  | 2, _ => rfl
  | n + 3, h => exact absurd h (by omega)
set_option maxHeartbeats 1000000 in
theorem yp_im3 (B i : Nat) (hi : i < 3) : rR (yp_SH B) 3 (B + (138 + 105 * i)) 0 = some (B + (139 + 105 * i)) ∧ rR (yp_SH B) 3 (B + (138 + 105 * i)) 1 = some (B + (145 + 105 * i)) := by
  match i, hi with
  | 0, _ => exact ⟨by rw [rR, show B + (138 + 105 * 0) = B + 138 from rfl, yp_so138]; rfl, by rw [rR, show B + (138 + 105 * 0) = B + 138 from rfl, yp_so138]; rfl⟩
  | 1, _ => exact ⟨by rw [rR, show B + (138 + 105 * 1) = B + 243 from rfl, yp_so243]; rfl, by rw [rR, show B + (138 + 105 * 1) = B + 243 from rfl, yp_so243]; rfl⟩
  | 2, _ => exact ⟨by rw [rR, show B + (138 + 105 * 2) = B + 348 from rfl, yp_so348]; rfl, by rw [rR, show B + (138 + 105 * 2) = B + 348 from rfl, yp_so348]; rfl⟩
  | n + 3, h => exact absurd h (by omega)
def yp_PS (sh : Shp) (P : Nat) : Prop := rR sh 7 P 0 = some (P + 1) ∧ isO sh 7 P = some () ∧ (∀ mm k, rI sh mm 7 P k = some (mm P k)) ∧ (∀ mm k v, wI sh mm 7 P k v = some (up2 mm P k v)) ∧ ∀ j, j < 16 → aR sh (P + 1) (yp_N j) = some (P + 2 + 6 * j) ∧ yp_HS sh (P + 2 + 6 * j)
def yp_PC (mm : Mem) (P w : Nat) (f : Nat → yp_HallT) : Prop := mm P 1 = yp_N w ∧ ∀ j, j < w → yp_HC mm (P + 2 + 6 * j) (f j)
set_option maxHeartbeats 1000000 in
theorem yp_psS (B : Nat) : yp_PS (yp_SH B) (B + 39) := by
  refine ⟨by rw [rR, yp_so39]; rfl, by rw [isO, yp_so39]; rfl, fun mm k => by rw [rI, yp_so39]; rfl, fun mm k v => by rw [wI, yp_so39]; rfl, fun j hj => ?_⟩
  rw [show B + 39 + 2 + 6 * j = B + (41 + 6 * j) by omega]
  exact ⟨yp_ar40 B j hj, yp_hsP B j hj⟩
set_option maxHeartbeats 1000000 in
theorem yp_ps0 (B : Nat) : yp_PS (yp_SH B) (B + 145) := by
  refine ⟨by rw [rR, yp_so145]; rfl, by rw [isO, yp_so145]; rfl, fun mm k => by rw [rI, yp_so145]; rfl, fun mm k v => by rw [wI, yp_so145]; rfl, fun j hj => ?_⟩
  rw [show B + 145 + 2 + 6 * j = B + (147 + 6 * j) by omega]
  exact ⟨yp_ar146 B j hj, yp_hsJ0 B j hj⟩
set_option maxHeartbeats 1000000 in
theorem yp_ps1 (B : Nat) : yp_PS (yp_SH B) (B + 250) := by
  refine ⟨by rw [rR, yp_so250]; rfl, by rw [isO, yp_so250]; rfl, fun mm k => by rw [rI, yp_so250]; rfl, fun mm k v => by rw [wI, yp_so250]; rfl, fun j hj => ?_⟩
  rw [show B + 250 + 2 + 6 * j = B + (252 + 6 * j) by omega]
  exact ⟨yp_ar251 B j hj, yp_hsJ1 B j hj⟩
set_option maxHeartbeats 1000000 in
theorem yp_ps2 (B : Nat) : yp_PS (yp_SH B) (B + 355) := by
  refine ⟨by rw [rR, yp_so355]; rfl, by rw [isO, yp_so355]; rfl, fun mm k => by rw [rI, yp_so355]; rfl, fun mm k v => by rw [wI, yp_so355]; rfl, fun j hj => ?_⟩
  rw [show B + 355 + 2 + 6 * j = B + (357 + 6 * j) by omega]
  exact ⟨yp_ar356 B j hj, yp_hsJ2 B j hj⟩
set_option maxHeartbeats 1000000 in
theorem yp_psI (B i : Nat) (hi : i < 3) : yp_PS (yp_SH B) (B + (145 + 105 * i)) := by
  match i, hi with
  | 0, _ => exact yp_ps0 B
  | 1, _ => exact yp_ps1 B
  | 2, _ => exact yp_ps2 B
  | n + 3, h => exact absurd h (by omega)
set_option maxHeartbeats 1000000 in
theorem yp_PC.same {P w : Nat} {f : Nat → yp_HallT} {mm' : Mem} (h : yp_PC mm P w f) (hw : w ≤ 16) (h2 : ∀ a j, P ≤ a → a ≤ P + 97 → mm' a j = mm a j) : yp_PC mm' P w f :=
  ⟨(h2 _ _ (by omega) (by omega)).trans h.1, fun j hj => (h.2 j hj).same (fun a k q1 q2 => h2 a k (by omega) (by omega))⟩
set_option maxHeartbeats 1000000 in
theorem yp_c_pcopy {sh : Shp} {P R w : Nat} {f : Nat → yp_HallT} (h : yp_PS sh P) (h' : yp_PS sh R) (hC : yp_PC mm R w f) (hw : w ≤ 16) (hd : P + 97 < R ∨ R + 97 < P) : ∃ m', fX7_copyFrom sh P R mm = some m' ∧ yp_PC m' P w f ∧ yp_Fr (fun a _ => P ≤ a ∧ a ≤ P + 97) mm m' := by
  obtain ⟨a1, a2, a3, a4, a5⟩ := h
  obtain ⟨yp_b1, b2, b3, b4, b5⟩ := h'
  obtain ⟨m1, hm1⟩ : ∃ m, m = up2 mm P 1 (yp_N w) := ⟨_, rfl⟩
  have f1 : yp_Fr (fun a _ => P ≤ a ∧ a ≤ P + 97) mm m1 := by rw [hm1]; exact yp_Fr.rf.up ⟨by omega, by omega⟩
  have s1 : m1 P 1 = yp_N w := by rw [hm1, yp_up2_s]
  obtain ⟨m2, h1, h2, h3, h4⟩ := yp_lpI (step := fun st : Int32 × Mem => fX7_copyFrom_b10 sh P R st.1 st.2) (fun k st => ∃ m, st = (yp_N k, m) ∧ m P 1 = yp_N w ∧ (∀ j, j < k → yp_HC m (P + 2 + 6 * j) (f j)) ∧ yp_Fr (fun a _ => P ≤ a ∧ a ≤ P + 97) mm m) (fun m => m P 1 = yp_N w ∧ (∀ j, j < w → yp_HC m (P + 2 + 6 * j) (f j)) ∧ yp_Fr (fun a _ => P ≤ a ∧ a ≤ P + 97) mm m) w (fun k st hk hJ => by
    obtain ⟨m, rfl, j1, j2, j3⟩ := hJ
    by_cases e : k = w
    · subst e
      exact .inr ⟨m, by simp (disch := omega) only [fX7_copyFrom_b10, a3, j1, Nat.reduceAdd, Nat.reduceMul, Nat.reduceSub, Nat.zero_add, Nat.add_zero, yp_LT, yp_nA, yp_nM, yp_ltF, yp_ltT, yp_leF, yp_leT, yp_eqF, eq_self, yp_eqM, lt1, yp_sbN, yp_sb2N, ↓reduceIte, ↓yp_iP11, ↓yp_iP12, ↓yp_m0P], j1, j2, j3⟩
    · have e1 := a5 k (by omega)
      have e2 := b5 k (by omega)
      have hH : yp_HC m (R + 2 + 6 * k) (f k) := (hC.2 k (by omega)).same (fun a j q1 q2 => j3 a j (by omega))
      obtain ⟨m', c1, c2, c3⟩ := yp_h_copy e1.2 e2.2 hH (by omega)
      have e3 := (yp_HSx e1.2).1.2.1
      refine .inl ⟨by omega, (yp_N (k + 1), m'), by simp (disch := omega) only [fX7_copyFrom_b10, a1, a3, yp_b1, j1, e1.1, e2.1, e3, c1, Nat.reduceAdd, Nat.reduceMul, Nat.reduceSub, Nat.zero_add, Nat.add_zero, yp_LT, yp_nA, yp_nM, yp_ltF, yp_ltT, yp_leF, yp_leT, yp_eqF, eq_self, yp_eqM, lt1, yp_sbN, yp_sb2N, ↓reduceIte, ↓yp_iP11, ↓yp_iP12, ↓yp_m0P], m', rfl, (c3 _ _ (by unfold yp_IH; omega)).trans j1, fun j hj => ?_, j3.tr (c3.mono (fun a j q => by unfold yp_IH at q; omega))⟩
      by_cases e4 : j = k
      · rw [e4]; exact c2
      · exact (j2 j (by omega)).same (fun a q q1 q2 => c3 a q (by unfold yp_IH; omega))) (show w < FU by rw [yp_FUe]; omega) (s0 := (yp_N 0, m1)) ⟨m1, rfl, s1, fun j hj => absurd hj (Nat.not_lt_zero j), f1⟩
  have e5 := hC.1
  exact ⟨m2, by simp (disch := omega) only [fX7_copyFrom, fX7_copyFrom_j39, b3, e5, a4, ← hm1, h1, Nat.reduceAdd, Nat.reduceMul, Nat.reduceSub, Nat.zero_add, Nat.add_zero, yp_LT, yp_nA, yp_nM, yp_ltF, yp_ltT, yp_leF, yp_leT, yp_eqF, eq_self, yp_eqM, lt1, yp_sbN, yp_sb2N, ↓reduceIte, ↓yp_iP11, ↓yp_iP12, ↓yp_m0P], ⟨h2, h3⟩, h4⟩
set_option maxHeartbeats 1000000 in
theorem yp_clsP (B : Nat) : (∀ mm k, rI (yp_SH B) mm 7 (B + 39) k = some (mm (B + 39) k)) ∧ rR (yp_SH B) 7 (B + 39) 0 = some (B + 40) ∧ isO (yp_SH B) 7 (B + 39) = some () ∧ (∀ mm k v, wI (yp_SH B) mm 7 (B + 39) k v = some (up2 mm (B + 39) k v)) := ⟨(yp_psS B).2.2.1, (yp_psS B).1, (yp_psS B).2.1, (yp_psS B).2.2.2.1⟩
def yp_undoA (A : yp_St) : yp_St := (yp_sQ A, yp_sP A (yp_sW A - 1), (yp_sW A - 1, yp_sP A), A.2.2.2.1, A.2.2.2.2.1, A.2.2.2.2.2.1, yp_sX A, yp_N 0, yp_sC0 A, yp_sC1 A)
set_option maxHeartbeats 1000000 in
theorem yp_c_rowcpy {a b n0 yp_n1 : Nat} {x0 : Nat} {step : Int32 × Mem → Option ((Int32 × Mem) ⊕ Mem)} (n p q : Nat) (hn : n < 8000) (hab : a ≠ b) (hs : ∀ k m, k < n → (∀ c j, ¬ (c = b ∧ q ≤ j ∧ j < q + k) → m c j = mm c j) → step (yp_N k, m) = some (.inl (yp_N (k + 1), up2 m b (q + k) (m a (p + k))))) (he : ∀ m, (∀ c j, ¬ (c = b ∧ q ≤ j ∧ j < q + n) → m c j = mm c j) → step (yp_N n, m) = some (.inr m)) : ∃ m', loopN step FU (yp_N 0, mm) = some m' ∧ (∀ k, k < n → m' b (q + k) = mm a (p + k)) ∧ ∀ c j, ¬ (c = b ∧ q ≤ j ∧ j < q + n) → m' c j = mm c j := by
  obtain ⟨m', h1, h2, h3⟩ := yp_lpI (step := step) (fun k st => ∃ m, st = (yp_N k, m) ∧ (∀ i, i < k → m b (q + i) = mm a (p + i)) ∧ ∀ c j, ¬ (c = b ∧ q ≤ j ∧ j < q + k) → m c j = mm c j) (fun m => (∀ k, k < n → m b (q + k) = mm a (p + k)) ∧ ∀ c j, ¬ (c = b ∧ q ≤ j ∧ j < q + n) → m c j = mm c j) n (fun k st hk hJ => by
    obtain ⟨m, rfl, j1, j2⟩ := hJ
    by_cases e : k = n
    · subst e
      exact .inr ⟨m, he m j2, j1, j2⟩
    · refine .inl ⟨by omega, _, hs k m (by omega) j2, _, rfl, fun i hi => ?_, fun c j h => ?_⟩
      · by_cases e2 : i = k
        · rw [e2, yp_up2_s, j2 a _ (fun h => hab h.1)]
        · rw [yp_up2_n _ _ (by omega)]
          exact j1 i (by omega)
      · rw [yp_up2_n _ _ (fun h1 h2 => h ⟨h1, by omega, by omega⟩)]
        exact j2 c j (fun h1 => h ⟨h1.1, h1.2.1, by omega⟩)) (show n < FU by rw [yp_FUe]; omega) (s0 := (yp_N 0, mm)) ⟨mm, rfl, fun i hi => absurd hi (Nat.not_lt_zero i), fun _ _ _ => rfl⟩
  exact ⟨m', h1, h2, h3⟩
set_option maxHeartbeats 1000000 in
theorem yp_refT (B : Nat) : rR (yp_SH B) 12 (B + 517) 38 = some (B + 534) ∧ rR (yp_SH B) 12 (B + 517) 48 = some (B + 541) ∧ rR (yp_SH B) 12 (B + 517) 1 = some (B + 518) ∧ rR (yp_SH B) 12 (B + 517) 9 = some (B + 519) ∧ (∀ mm k, k < 2800 → aL (yp_SH B) mm (B + 534) (yp_N k) = some (mm (B + 534) k)) ∧ (∀ mm k v, k < 2800 → aS (yp_SH B) mm (B + 534) (yp_N k) v = some (up2 mm (B + 534) k v)) ∧ (∀ mm k, k < 8928 → aL (yp_SH B) mm (B + 541) (yp_N k) = some (mm (B + 541) k)) ∧ (∀ mm k v, k < 8928 → aS (yp_SH B) mm (B + 541) (yp_N k) v = some (up2 mm (B + 541) k v)) ∧ (∀ mm k, k < 2 → aL (yp_SH B) mm (B + 518) (yp_N k) = some (mm (B + 518) k)) ∧ (∀ mm k, k < 600 → aL (yp_SH B) mm (B + 519) (yp_N k) = some (mm (B + 519) k)) ∧ (∀ mm k v, k < 600 → aS (yp_SH B) mm (B + 519) (yp_N k) v = some (up2 mm (B + 519) k v)) := by
  refine ⟨?_, ?_, ?_, ?_, fun mm k h => yp_aLN (yp_sa534 B) mm k h (by omega), fun mm k v h => yp_aSN (yp_sa534 B) mm k v h (by omega), fun mm k h => yp_aLN (yp_sa541 B) mm k h (by omega), fun mm k v h => yp_aSN (yp_sa541 B) mm k v h (by omega), fun mm k h => yp_aLN (yp_sa518 B) mm k h (by omega), fun mm k h => yp_aLN (yp_sa519 B) mm k h (by omega), fun mm k v h => yp_aSN (yp_sa519 B) mm k v h (by omega)⟩
  · rw [rR, yp_so517]; rfl
  · rw [rR, yp_so517]; rfl
  · rw [rR, yp_so517]; rfl
  · rw [rR, yp_so517]; rfl
set_option maxHeartbeats 1000000 in
theorem yp_p_undo (hR : yp_RCc B mm A) (hI : yp_INV A) : yp_PV B (fX11_undo (yp_SH B) B mm) (fun m => fX12_undo (yp_SH B) (B + 517) m) mm A := by
  have hA := yp_clsS B
  have hP := yp_clsP B
  have hM := yp_mS B
  have hT := yp_refT B
  have hw := hI.2.2.1.1
  have c1 := hR.2.2.1.1
  by_cases h0 : yp_sW A = 0
  · rw [h0] at c1
    refine yp_PV_no hR hI (v := -yp_N 1) (by simp (disch := omega) only [fX11_undo, hA, hP, c1, Nat.reduceAdd, Nat.reduceMul, Nat.reduceSub, Nat.zero_add, Nat.add_zero, yp_LT, yp_nA, yp_nM, yp_ltF, yp_ltT, yp_leF, yp_leT, yp_eqF, eq_self, yp_eqM, lt1, yp_sbN, yp_sb2N, ↓reduceIte, ↓yp_iP11, ↓yp_iP12, ↓yp_m0P]) (fun m hm => ?_)
    have c2 := (yp_m0R hm).2.2.1.1
    rw [h0] at c2
    simp (disch := omega) only [fX12_undo, hM, yp_m0e, c2, Nat.reduceAdd, Nat.reduceMul, Nat.reduceSub, Nat.zero_add, Nat.add_zero, yp_LT, yp_nA, yp_nM, yp_ltF, yp_ltT, yp_leF, yp_leT, yp_eqF, eq_self, yp_eqM, lt1, yp_sbN, yp_sb2N, ↓reduceIte, ↓yp_iP11, ↓yp_iP12, ↓yp_m0P]
  obtain ⟨k, hk⟩ : ∃ k, yp_sW A = k + 1 := ⟨yp_sW A - 1, by omega⟩
  rw [hk] at c1
  obtain ⟨m4, hm4⟩ : ∃ m, m = up2 mm (B + 39) 1 (yp_N k) := ⟨_, rfl⟩
  have f4 : ∀ a j, ¬ (a = B + 39 ∧ j = 1) → m4 a j = mm a j := fun a j h => by rw [hm4, yp_up2_n _ _ (by omega)]
  have s4 : m4 (B + 39) 1 = yp_N k := by rw [hm4, yp_up2_s]
  have hH : yp_HC m4 (B + (41 + 6 * k)) (yp_sP A k) := (hR.2.2.1.2 k (by omega)).same (fun a j q1 q2 => f4 a j (by omega))
  obtain ⟨m5, e1, e2, e3⟩ := yp_h_copy (yp_hs33 B) (yp_hsP B k (by omega)) hH (by omega)
  have f6 : ∀ a j, ¬ (a = B + 39 ∧ j = 1) → ¬ (a = B ∧ j = 13) → ¬ (B + 33 ≤ a ∧ a ≤ B + 38) → up2 m5 B 13 (yp_N 0) a j = mm a j := fun a j q1 q2 q3 => by
    rw [yp_up2_n _ _ (by omega), e3 a j (by unfold yp_IH; omega), f4 a j q1]
  have s6 : up2 m5 B 13 (yp_N 0) (B + 39) 1 = yp_N k := by
    rw [yp_up2_n _ _ (by omega), e3 _ _ (by unfold yp_IH; omega), s4]
  have e9 := yp_ar40 B k (by omega)
  refine ⟨yp_N k, yp_undoA A, up2 m5 B 13 (yp_N 0), ?_, ?_, ?_, fun a j h => f6 a j (by omega) (by omega) (by omega), fun m hm => ?_⟩
  · obtain ⟨i1, i2, ⟨i3, i4⟩, i5, i6, i7⟩ := hI
    refine ⟨i1, ?_, ⟨?_, fun i hi => ?_⟩, i5, i6, i7⟩
    · exact i4 (yp_sW A - 1) (by omega)
    · show yp_sW A - 1 ≤ 16
      omega
    · exact i4 i (by have : i < yp_sW A - 1 := hi; omega)
  · simp (disch := omega) only [fX11_undo, fX7_popInto, fX7_popInto_j30, hA, hP, c1, yp_nS, Nat.add_sub_cancel, ← hm4, s4, e9, e1, s6, Nat.reduceAdd, Nat.reduceMul, Nat.reduceSub, Nat.zero_add, Nat.add_zero, yp_LT, yp_nA, yp_nM, yp_ltF, yp_ltT, yp_leF, yp_leT, yp_eqF, eq_self, yp_eqM, lt1, yp_sbN, yp_sb2N, ↓reduceIte, ↓yp_iP11, ↓yp_iP12, ↓yp_m0P]
  · obtain ⟨h1, h2, ⟨h3, h4⟩, ⟨h5, h6⟩, ⟨h7, h8, h9⟩, ⟨h10, h11, h12⟩, ⟨h13, h14, h15⟩, h16⟩ := hR
    have iI := hI.2.2.2.1
    refine ⟨h1.fr (fun a j h => f6 a j (by omega) (by omega) (by omega)), ?_, ⟨?_, fun i hi => ?_⟩, ⟨(f6 _ _ (by omega) (by omega) (by omega)).trans h5, fun i hi => ⟨(h6 i hi).1.same (fun a j q1 q2 => f6 a j (by omega) (by omega) (by omega)), (f6 _ _ (by omega) (by omega) (by omega)).trans (h6 i hi).2.1, fun j hj => ((h6 i hi).2.2 j hj).same (fun a q q1 q2 => f6 a q (by omega) (by omega) (by omega))⟩⟩, ⟨(f6 _ _ (by omega) (by omega) (by omega)).trans h7, fun i hi => (f6 _ _ (by omega) (by omega) (by omega)).trans (h8 i hi), fun i hi => (f6 _ _ (by omega) (by omega) (by omega)).trans (h9 i hi)⟩, ⟨(f6 _ _ (by omega) (by omega) (by omega)).trans h10, fun k hk => (f6 _ _ (by omega) (by omega) (by omega)).trans (h11 k hk), (f6 _ _ (by omega) (by omega) (by omega)).trans h12⟩, ⟨yp_up2_s _ _ _ _, (f6 _ _ (by omega) (by omega) (by omega)).trans h14, (f6 _ _ (by omega) (by omega) (by omega)).trans h15⟩, fun k hk => (f6 _ _ (by omega) (by omega) (by omega)).trans (h16 k hk)⟩
    · have e5 : yp_sH (yp_undoA A) = yp_sP A k := by show yp_sP A (yp_sW A - 1) = yp_sP A k; rw [hk]; rfl
      rw [e5]
      exact e2.same (fun a j q1 q2 => yp_up2_n _ _ (by omega))
    · show up2 m5 B 13 (yp_N 0) (B + 39) 1 = yp_N (yp_sW A - 1)
      rw [s6, hk]
      rfl
    · have hi : i < yp_sW A - 1 := hi
      exact (h4 i (by omega)).same (fun a j q1 q2 => f6 a j (by omega) (by omega) (by omega))
  · have hm0 := yp_m0R hm
    have c2 := hm0.2.2.1.1
    rw [hk] at c2
    obtain ⟨m7, hm7⟩ : ∃ m', m' = up2 (yp_m0 B m) (B + 517) 31 (yp_N k) := ⟨_, rfl⟩
    have f7 : ∀ a j, ¬ (a = B + 517 ∧ j = 31) → m7 a j = yp_m0 B m a j := fun a j h => by rw [hm7, yp_up2_n _ _ (by omega)]
    have s7 : m7 (B + 517) 31 = yp_N k := by rw [hm7, yp_up2_s]
    obtain ⟨m8, g1, g2, g3⟩ := yp_c_rowcpy (mm := m7) (a := B + 534) (b := B + 532) (n0 := 0) (yp_n1 := 0) (x0 := 0) (step := fun st : Int32 × Mem => fX12_undo_b26 (yp_SH B) (B + 517) st.1 st.2) 175 (175 * k) 0 (by omega) (by omega) (fun i m' hi hf => by
      have e := (hf (B + 517) 31 (by omega)).trans s7
      simp (disch := omega) only [fX12_undo_b26, hM, hT, e, Nat.reduceAdd, Nat.reduceMul, Nat.reduceSub, Nat.zero_add, Nat.add_zero, yp_LT, yp_nA, yp_nM, yp_ltF, yp_ltT, yp_leF, yp_leT, yp_eqF, eq_self, yp_eqM, lt1, yp_sbN, yp_sb2N, ↓reduceIte, ↓yp_iP11, ↓yp_iP12, ↓yp_m0P]) (fun m' hf => by simp (disch := omega) only [fX12_undo_b26, Nat.reduceAdd, Nat.reduceMul, Nat.reduceSub, Nat.zero_add, Nat.add_zero, yp_LT, yp_nA, yp_nM, yp_ltF, yp_ltT, yp_leF, yp_leT, yp_eqF, eq_self, yp_eqM, lt1, yp_sbN, yp_sb2N, ↓reduceIte, ↓yp_iP11, ↓yp_iP12, ↓yp_m0P])
    have f8 : ∀ a j, ¬ (a = B + 517 ∧ (j = 31 ∨ j = 32)) → a ≠ B + 532 → up2 m8 (B + 517) 32 (yp_N 0) a j = yp_m0 B m a j := fun a j q1 q2 => by
      rw [yp_up2_n _ _ (by omega), g3 a j (by omega), f7 a j (by omega)]
    have s8 : up2 m8 (B + 517) 32 (yp_N 0) (B + 517) 31 = yp_N k := by
      rw [yp_up2_n _ _ (by omega), g3 _ _ (by omega), s7]
    refine ⟨up2 m8 (B + 517) 32 (yp_N 0), ?_, ?_, fun a j h => ?_⟩
    · simp (disch := omega) only [fX12_undo, fX12_undo_j60, hM, yp_m0e, c2, yp_nS, Nat.add_sub_cancel, ← hm7, g1, s8, Nat.reduceAdd, Nat.reduceMul, Nat.reduceSub, Nat.zero_add, Nat.add_zero, yp_LT, yp_nA, yp_nM, yp_ltF, yp_ltT, yp_leF, yp_leT, yp_eqF, eq_self, yp_eqM, lt1, yp_sbN, yp_sb2N, ↓reduceIte, ↓yp_iP11, ↓yp_iP12, ↓yp_m0P]
    · obtain ⟨h1, h2, ⟨h3, h4⟩, ⟨h5, h6⟩, ⟨h7, h8, h9⟩, ⟨h10, h11, h12⟩, ⟨h13, h14, h15⟩⟩ := hm0
      refine ⟨h1.fr (fun a j h => f8 a j (by omega) (by omega)), ?_, ⟨?_, fun i hi q hq => ?_⟩, ⟨(f8 _ _ (by omega) (by omega)).trans h5, fun i hi => ⟨fun k hk => (f8 _ _ (by omega) (by omega)).trans ((h6 i hi).1 k hk), (f8 _ _ (by omega) (by omega)).trans (h6 i hi).2.1, fun j hj k hk => (f8 _ _ (by omega) (by omega)).trans ((h6 i hi).2.2 j hj k hk)⟩⟩, ⟨(f8 _ _ (by omega) (by omega)).trans h7, fun i hi => (f8 _ _ (by omega) (by omega)).trans (h8 i hi), fun i hi => (f8 _ _ (by omega) (by omega)).trans (h9 i hi)⟩, ⟨(f8 _ _ (by omega) (by omega)).trans h10, fun k hk => (f8 _ _ (by omega) (by omega)).trans (h11 k hk), (f8 _ _ (by omega) (by omega)).trans h12⟩, ⟨yp_up2_s _ _ _ _, (f8 _ _ (by omega) (by omega)).trans h14, (f8 _ _ (by omega) (by omega)).trans h15⟩⟩
      · have e5 : yp_sH (yp_undoA A) = yp_sP A k := by show yp_sP A (yp_sW A - 1) = yp_sP A k; rw [hk]; rfl
        rw [e5]
        intro q hq
        have e6 := g2 q hq
        rw [Nat.zero_add] at e6
        rw [yp_up2_n _ _ (by omega), e6, f7 _ _ (by omega)]
        exact h4 k (by omega) q hq
      · show up2 m8 (B + 517) 32 (yp_N 0) (B + 517) 31 = yp_N (yp_sW A - 1)
        rw [s8, hk]
        rfl
      · have hi : i < yp_sW A - 1 := hi
        exact (f8 _ _ (by omega) (by omega)).trans (h4 i (by omega) q hq)
    · rw [f8 a j (by omega) (by omega), yp_m0n (by omega)]
end STATE

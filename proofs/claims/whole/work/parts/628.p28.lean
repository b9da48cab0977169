section FEED
variable {B : Nat} {mm : Mem} {A : yp_St}
def yp_bb (v : Int32) (i : Nat) : Int32 := (v >>> (yp_N (24 - 8 * i) &&& yp_N 31)) &&& yp_N 255
set_option maxHeartbeats 1000000 in
theorem yp_bb_r (v : Int32) (i : Nat) : 0 ≤ (yp_bb v i).toInt ∧ (yp_bb v i).toInt < 256 := by
  obtain ⟨k, h1, h2⟩ := yp_mask_r (v >>> (yp_N (24 - 8 * i) &&& yp_N 31)) 8 (by omega)
  unfold yp_bb
  have e : (2 : Nat) ^ 8 = 256 := by decide
  rw [e] at h1 h2
  have h2 : v >>> (yp_N (24 - 8 * i) &&& yp_N 31) &&& yp_N 255 = yp_N k := h2
  rw [h2, yp_tiN (by omega)]
  omega
def yp_shv (k : Nat) : Int32 := if k = 4 then -yp_N 8 else yp_N (24 - 8 * k)
set_option maxHeartbeats 1000000 in
theorem yp_shF (k : Nat) (hk : k < 4) : yp_shv k + -yp_N 8 = yp_shv (k + 1) ∧ (yp_shv k < yp_N 0) = False := by
  have h : ∀ k : Fin 4, yp_shv k.val + -yp_N 8 = yp_shv (k.val + 1) ∧ ¬ yp_shv k.val < yp_N 0 := by decide +kernel
  exact ⟨(h ⟨k, hk⟩).1, eq_false (h ⟨k, hk⟩).2⟩
set_option maxHeartbeats 1000000 in
theorem yp_sh4 : (yp_shv 4 < yp_N 0) = True := eq_true (by decide)
set_option maxHeartbeats 1000000 in
theorem yp_bbE (v : Int32) (k : Nat) (hk : k < 4) : uShr v (yp_shv k) &&& yp_N 255 = yp_bb v k := by
  have h := yp_ushr_ashr v (24 - 8 * k) 8 (by omega) (by omega)
  have e : yp_shv k = yp_N (24 - 8 * k) := by unfold yp_shv; rw [if_neg (by omega)]
  rw [e]
  exact h
set_option maxHeartbeats 1000000 in
theorem yp_tapS (B : Nat) : rR (yp_SH B) 8 (B + 1) 0 = some (B + 2) ∧ isO (yp_SH B) 8 (B + 1) = some () ∧ (∀ mm k, rI (yp_SH B) mm 8 (B + 1) k = some (mm (B + 1) k)) ∧ (∀ mm k v, wI (yp_SH B) mm 8 (B + 1) k v = some (up2 mm (B + 1) k v)) ∧ (∀ mm k, k < 600 → aL (yp_SH B) mm (B + 2) (yp_N k) = some (mm (B + 2) k)) ∧ (∀ mm k v, k < 600 → aS (yp_SH B) mm (B + 2) (yp_N k) v = some (up2 mm (B + 2) k v)) := by
  refine ⟨?_, ?_, ?_, ?_, fun mm k h => yp_aLN (yp_sa2 B) mm k h (by omega), fun mm k v h => yp_aSN (yp_sa2 B) mm k v h (by omega)⟩
  · rw [rR, yp_so1]; rfl
  · rw [isO, yp_so1]; rfl
  · intro mm k; rw [rI, yp_so1]; rfl
  · intro mm k v; rw [wI, yp_so1]; rfl
set_option maxHeartbeats 1000000 in
theorem yp_c_put {m : Mem} (p : Nat) (v : Int32) (h1 : m (B + 1) 1 = yp_N p) (hp : p + 4 ≤ 600) : ∃ m', fX8_put (yp_SH B) (B + 1) v m = some m' ∧ m' (B + 1) 1 = yp_N (p + 4) ∧ (∀ i, i < 4 → m' (B + 2) (p + i) = yp_bb v i) ∧ ∀ a j, ¬ (a = B + 1 ∧ j = 1) → ¬ (a = B + 2 ∧ p ≤ j ∧ j < p + 4) → m' a j = m a j := by
  have hT := yp_tapS B
  obtain ⟨m', g1, g2, g3, g4⟩ := yp_lpI (step := fun st : Int32 × Mem => fX8_put_b3 (yp_SH B) (B + 1) v st.1 st.2) (fun k st => ∃ m1, st = (yp_shv k, m1) ∧ m1 (B + 1) 1 = yp_N (p + k) ∧ (∀ i, i < k → m1 (B + 2) (p + i) = yp_bb v i) ∧ ∀ a j, ¬ (a = B + 1 ∧ j = 1) → ¬ (a = B + 2 ∧ p ≤ j ∧ j < p + 4) → m1 a j = m a j) (fun m1 => m1 (B + 1) 1 = yp_N (p + 4) ∧ (∀ i, i < 4 → m1 (B + 2) (p + i) = yp_bb v i) ∧ ∀ a j, ¬ (a = B + 1 ∧ j = 1) → ¬ (a = B + 2 ∧ p ≤ j ∧ j < p + 4) → m1 a j = m a j) 4 (fun k st hk hJ => by
    obtain ⟨m1, rfl, j1, j2, j3⟩ := hJ
    by_cases e : k = 4
    · subst e
      exact .inr ⟨m1, by simp (disch := omega) only [fX8_put_b3, yp_sh4, Nat.reduceAdd, Nat.reduceMul, Nat.reduceSub, Nat.zero_add, Nat.add_zero, yp_LT, yp_nA, yp_nM, yp_ltF, yp_ltT, yp_leF, yp_leT, yp_eqF, eq_self, yp_eqM, lt1, yp_sbN, yp_sb2N, ↓reduceIte, ↓yp_iP11, ↓yp_iP12, ↓yp_m0P], j1, j2, j3⟩
    · have s1 := yp_shF k (by omega)
      have s2 := yp_bbE v k (by omega)
      have e1 : up2 m1 (B + 2) (p + k) (yp_bb v k) (B + 1) 1 = yp_N (p + k) := by rw [yp_up2_n _ _ (by omega), j1]
      refine .inl ⟨by omega, (yp_shv (k + 1), up2 (up2 m1 (B + 2) (p + k) (yp_bb v k)) (B + 1) 1 (yp_N (p + k + 1))), ?_, _, rfl, ?_, fun i hi => ?_, fun a j q1 q2 => ?_⟩
      · simp (disch := omega) only [fX8_put_b3, hT, j1, s1, s2, e1, Nat.reduceAdd, Nat.reduceMul, Nat.reduceSub, Nat.zero_add, Nat.add_zero, yp_LT, yp_nA, yp_nM, yp_ltF, yp_ltT, yp_leF, yp_leT, yp_eqF, eq_self, yp_eqM, lt1, yp_sbN, yp_sb2N, ↓reduceIte, ↓yp_iP11, ↓yp_iP12, ↓yp_m0P]
      · rw [yp_up2_s]; rfl
      · rw [yp_up2_n _ _ (by omega)]
        by_cases e2 : i = k
        · rw [e2, yp_up2_s]
        · rw [yp_up2_n _ _ (by omega)]
          exact j2 i (by omega)
      · rw [yp_up2_n _ _ (by omega), yp_up2_n _ _ (by omega)]
        exact j3 a j q1 q2) (show 4 < FU by rw [yp_FUe]; omega) (s0 := (yp_N 24, m)) ⟨m, rfl, h1, fun i hi => absurd hi (Nat.not_lt_zero i), fun _ _ _ _ => rfl⟩
  exact ⟨m', by simp (disch := omega) only [fX8_put_j49, fX8_put, g1, Nat.reduceAdd, Nat.reduceMul, Nat.reduceSub, Nat.zero_add, Nat.add_zero, yp_LT, yp_nA, yp_nM, yp_ltF, yp_ltT, yp_leF, yp_leT, yp_eqF, eq_self, yp_eqM, lt1, yp_sbN, yp_sb2N, ↓reduceIte, ↓yp_iP11, ↓yp_iP12, ↓yp_m0P], g2, g3, g4⟩
def yp_fb (a b c d e : Int32) (i : Nat) : Int32 := yp_bb (if i < 4 then a else if i < 8 then b else if i < 12 then c else if i < 16 then d else e) (i % 4)
def yp_feedA (A : yp_St) (a b c d e : Int32) : yp_St := (yp_sQ A, yp_sH A, A.2.2.1, A.2.2.2.1, A.2.2.2.2.1, (yp_sF A + 20, fun k => if k < yp_sF A then yp_sT A k else yp_fb a b c d e (k - yp_sF A)), yp_sX A, yp_sR A, yp_sC0 A, yp_sC1 A)
set_option maxHeartbeats 1000000 in
theorem yp_rm4 (k : Nat) (hk : k < 20) : rmI (yp_N k) (yp_N 4) = some (yp_N (k % 4)) := by
  have h : ∀ k : Fin 20, rmI (yp_N k.val) (yp_N 4) = some (yp_N (k.val % 4)) := by decide +kernel
  exact h ⟨k, hk⟩
set_option maxHeartbeats 1000000 in
theorem yp_p_feed (hR : yp_RCc B mm A) (hI : yp_INV A) (a b c d e : Int32) : yp_PV B (fX11_feed (yp_SH B) B a b c d e mm) (fun m => fX12_feed (yp_SH B) (B + 517) a b c d e m) mm A := by
  have hA := yp_clsS B
  have hT := yp_tapS B
  have hM := yp_mS B
  have hT2 := yp_refT B
  have hF := hI.2.2.2.2.2
  have c1 := hR.2.2.2.2.2.1.1
  by_cases h6 : yp_sF A + 20 ≤ 600
  rotate_left
  · refine yp_PV_no hR hI (v := -yp_N 1) (by simp (disch := omega) only [fX11_feed, hA, hT, c1, Nat.reduceAdd, Nat.reduceMul, Nat.reduceSub, Nat.zero_add, Nat.add_zero, yp_LT, yp_nA, yp_nM, yp_ltF, yp_ltT, yp_leF, yp_leT, yp_eqF, eq_self, yp_eqM, lt1, yp_sbN, yp_sb2N, ↓reduceIte, ↓yp_iP11, ↓yp_iP12, ↓yp_m0P]) (fun m hm => ?_)
    have c2 := (yp_m0R hm).2.2.2.2.2.1.1
    simp (disch := omega) only [fX12_feed, hM, yp_m0e, c2, Nat.reduceAdd, Nat.reduceMul, Nat.reduceSub, Nat.zero_add, Nat.add_zero, yp_LT, yp_nA, yp_nM, yp_ltF, yp_ltT, yp_leF, yp_leT, yp_eqF, eq_self, yp_eqM, lt1, yp_sbN, yp_sb2N, ↓reduceIte, ↓yp_iP11, ↓yp_iP12, ↓yp_m0P]
  obtain ⟨p, hp⟩ : ∃ p, p = yp_sF A := ⟨_, rfl⟩
  rw [← hp] at c1 h6
  obtain ⟨m1, x1, y1, z1, f1⟩ := yp_c_put p a c1 (by omega)
  obtain ⟨m2, x2, y2, z2, f2⟩ := yp_c_put (p + 4) b y1 (by omega)
  obtain ⟨m3, x3, y3, z3, f3⟩ := yp_c_put (p + 4 + 4) c y2 (by omega)
  obtain ⟨m4, x4, y4, z4, f4⟩ := yp_c_put (p + 4 + 4 + 4) d y3 (by omega)
  obtain ⟨m5, x5, y5, z5, f5⟩ := yp_c_put (p + 4 + 4 + 4 + 4) e y4 (by omega)
  have y5 : m5 (B + 1) 1 = yp_N (p + 20) := y5
  have F5 : ∀ q j, ¬ (q = B + 1 ∧ j = 1) → ¬ (q = B + 2 ∧ p ≤ j ∧ j < p + 20) → m5 q j = mm q j := fun q j q1 q2 => by
    rw [f5 q j q1 (by omega), f4 q j q1 (by omega), f3 q j q1 (by omega), f2 q j q1 (by omega), f1 q j q1 (by omega)]
  have Z : ∀ i, i < 20 → m5 (B + 2) (p + i) = yp_fb a b c d e i := fun i hi => by
    unfold yp_fb
    by_cases i1 : i < 4
    · rw [if_pos i1, f5 _ _ (by omega) (by omega), f4 _ _ (by omega) (by omega), f3 _ _ (by omega) (by omega), f2 _ _ (by omega) (by omega), z1 i i1, Nat.mod_eq_of_lt i1]
    · rw [if_neg i1]
      by_cases i2 : i < 8
      · rw [if_pos i2, f5 _ _ (by omega) (by omega), f4 _ _ (by omega) (by omega), f3 _ _ (by omega) (by omega), show p + i = p + 4 + (i - 4) by omega, z2 (i - 4) (by omega), show i % 4 = i - 4 by omega]
      · rw [if_neg i2]
        by_cases i3 : i < 12
        · rw [if_pos i3, f5 _ _ (by omega) (by omega), f4 _ _ (by omega) (by omega), show p + i = p + 4 + 4 + (i - 8) by omega, z3 (i - 8) (by omega), show i % 4 = i - 8 by omega]
        · rw [if_neg i3]
          by_cases i4 : i < 16
          · rw [if_pos i4, f5 _ _ (by omega) (by omega), show p + i = p + 4 + 4 + 4 + (i - 12) by omega, z4 (i - 12) (by omega), show i % 4 = i - 12 by omega]
          · rw [if_neg i4, show p + i = p + 4 + 4 + 4 + 4 + (i - 16) by omega, z5 (i - 16) (by omega), show i % 4 = i - 16 by omega]
  refine ⟨yp_N (p + 20), yp_feedA A a b c d e, m5, ?_, ?_, ?_, fun q j h => F5 q j (by omega) (by omega), fun m hm => ?_⟩
  · obtain ⟨i1, i2, i3, i4, i5, ⟨i6, i7⟩⟩ := hI
    refine ⟨i1, i2, i3, i4, i5, ⟨by show yp_sF A + 20 ≤ 600; omega, fun k hk => ?_⟩⟩
    show 0 ≤ (if k < yp_sF A then yp_sT A k else yp_fb a b c d e (k - yp_sF A)).toInt ∧ (if k < yp_sF A then yp_sT A k else yp_fb a b c d e (k - yp_sF A)).toInt < 256
    split
    · exact i7 k (by assumption)
    · exact yp_bb_r _ _
  · simp (disch := omega) only [fX11_feed, hA, hT, c1, x1, x2, x3, x4, x5, y5, Nat.reduceAdd, Nat.reduceMul, Nat.reduceSub, Nat.zero_add, Nat.add_zero, yp_LT, yp_nA, yp_nM, yp_ltF, yp_ltT, yp_leF, yp_leT, yp_eqF, eq_self, yp_eqM, lt1, yp_sbN, yp_sb2N, ↓reduceIte, ↓yp_iP11, ↓yp_iP12, ↓yp_m0P]
  · obtain ⟨h1, h2, ⟨h3, h4⟩, ⟨h5, h6'⟩, ⟨h7, h8, h9⟩, ⟨h10, h11, h12⟩, ⟨h13, h14, h15⟩, h16⟩ := hR
    have iI := hI.2.2.2.1
    refine ⟨h1.fr (fun a j h => F5 a j (by omega) (by omega)), h2.same (fun a j q1 q2 => F5 a j (by omega) (by omega)), ⟨(F5 _ _ (by omega) (by omega)).trans h3, fun i hi => (h4 i hi).same (fun a j q1 q2 => F5 a j (by omega) (by omega))⟩, ⟨(F5 _ _ (by omega) (by omega)).trans h5, fun i hi => ⟨(h6' i hi).1.same (fun a j q1 q2 => F5 a j (by omega) (by omega)), (F5 _ _ (by omega) (by omega)).trans (h6' i hi).2.1, fun j hj => ((h6' i hi).2.2 j hj).same (fun a q q1 q2 => F5 a q (by omega) (by omega))⟩⟩, ⟨(F5 _ _ (by omega) (by omega)).trans h7, fun i hi => (F5 _ _ (by omega) (by omega)).trans (h8 i hi), fun i hi => (F5 _ _ (by omega) (by omega)).trans (h9 i hi)⟩, ⟨?_, fun k hk => ?_, (F5 _ _ (by omega) (by omega)).trans h12⟩, ⟨(F5 _ _ (by omega) (by omega)).trans h13, (F5 _ _ (by omega) (by omega)).trans h14, (F5 _ _ (by omega) (by omega)).trans h15⟩, fun k hk => (F5 _ _ (by omega) (by omega)).trans (h16 k hk)⟩
    · show m5 (B + 1) 1 = yp_N (yp_sF A + 20)
      rw [y5, hp]
    · have hk : k < yp_sF A + 20 := hk
      show m5 (B + 2) k = if k < yp_sF A then yp_sT A k else yp_fb a b c d e (k - yp_sF A)
      by_cases e1 : k < yp_sF A
      · rw [if_pos e1, F5 _ _ (by omega) (by omega)]
        exact h11 k e1
      · rw [if_neg e1, ← Z (k - yp_sF A) (by omega), hp, show yp_sF A + (k - yp_sF A) = k by omega]
  · have hm0 := yp_m0R hm
    have c2 := hm0.2.2.2.2.2.1.1
    rw [← hp] at c2
    obtain ⟨m6, g1, g2, g3, g4⟩ := yp_lpI (step := fun st : Int32 × Mem => fX12_feed_b23 (yp_SH B) (B + 517) a b c d e st.1 st.2) (fun k st => ∃ m1, st = (yp_N k, m1) ∧ m1 (B + 517) 2 = yp_N (p + k) ∧ (∀ i, i < k → m1 (B + 519) (p + i) = yp_fb a b c d e i) ∧ ∀ q j, ¬ (q = B + 517 ∧ j = 2) → ¬ (q = B + 519 ∧ p ≤ j ∧ j < p + 20) → m1 q j = yp_m0 B m q j) (fun m1 => m1 (B + 517) 2 = yp_N (p + 20) ∧ (∀ i, i < 20 → m1 (B + 519) (p + i) = yp_fb a b c d e i) ∧ ∀ q j, ¬ (q = B + 517 ∧ j = 2) → ¬ (q = B + 519 ∧ p ≤ j ∧ j < p + 20) → m1 q j = yp_m0 B m q j) 20 (fun k st hk hJ => by
      obtain ⟨m1, rfl, j1, j2, j3⟩ := hJ
      by_cases e9 : k = 20
      · subst e9
        exact .inr ⟨m1, by simp (disch := omega) only [fX12_feed_b23, Nat.reduceAdd, Nat.reduceMul, Nat.reduceSub, Nat.zero_add, Nat.add_zero, yp_LT, yp_nA, yp_nM, yp_ltF, yp_ltT, yp_leF, yp_leT, yp_eqF, eq_self, yp_eqM, lt1, yp_sbN, yp_sb2N, ↓reduceIte, ↓yp_iP11, ↓yp_iP12, ↓yp_m0P], j1, j2, j3⟩
      · have r1 := yp_rm4 k (by omega)
        have hm4 : k % 4 < 4 := Nat.mod_lt _ (by omega)
        have key : ∀ v, v = (if k < 4 then a else if k < 8 then b else if k < 12 then c else if k < 16 then d else e) → fX12_feed_j76 (yp_SH B) (B + 517) a b c d e (yp_N k) v m1 = some (.inl (yp_N (k + 1), up2 (up2 m1 (B + 519) (p + k) (yp_fb a b c d e k)) (B + 517) 2 (yp_N (p + k + 1)))) := fun v hv => by
          have e1 : (v >>> (yp_N (24 - 8 * (k % 4)) &&& yp_N 31)) &&& yp_N 255 = yp_fb a b c d e k := by rw [hv]; rfl
          have e2 : up2 m1 (B + 519) (p + k) (yp_fb a b c d e k) (B + 517) 2 = yp_N (p + k) := by rw [yp_up2_n _ _ (by omega), j1]
          simp (disch := omega) only [fX12_feed_j76, hM, hT2, j1, r1, yp_nS, e1, e2, Nat.reduceAdd, Nat.reduceMul, Nat.reduceSub, Nat.zero_add, Nat.add_zero, yp_LT, yp_nA, yp_nM, yp_ltF, yp_ltT, yp_leF, yp_leT, yp_eqF, eq_self, yp_eqM, lt1, yp_sbN, yp_sb2N, ↓reduceIte, ↓yp_iP11, ↓yp_iP12, ↓yp_m0P]
        refine .inl ⟨by omega, (yp_N (k + 1), up2 (up2 m1 (B + 519) (p + k) (yp_fb a b c d e k)) (B + 517) 2 (yp_N (p + k + 1))), ?_, _, rfl, ?_, fun i hi => ?_, fun q j q1 q2 => ?_⟩
        · by_cases k1 : k < 4
          · have := key a (by rw [if_pos k1])
            simp (disch := omega) only [fX12_feed_b23, this, Nat.reduceAdd, Nat.reduceMul, Nat.reduceSub, Nat.zero_add, Nat.add_zero, yp_LT, yp_nA, yp_nM, yp_ltF, yp_ltT, yp_leF, yp_leT, yp_eqF, eq_self, yp_eqM, lt1, yp_sbN, yp_sb2N, ↓reduceIte, ↓yp_iP11, ↓yp_iP12, ↓yp_m0P]
          · by_cases k2 : k < 8
            · have := key b (by rw [if_neg k1, if_pos k2])
              simp (disch := omega) only [fX12_feed_b23, this, Nat.reduceAdd, Nat.reduceMul, Nat.reduceSub, Nat.zero_add, Nat.add_zero, yp_LT, yp_nA, yp_nM, yp_ltF, yp_ltT, yp_leF, yp_leT, yp_eqF, eq_self, yp_eqM, lt1, yp_sbN, yp_sb2N, ↓reduceIte, ↓yp_iP11, ↓yp_iP12, ↓yp_m0P]
            · by_cases k3 : k < 12
              · have := key c (by rw [if_neg k1, if_neg k2, if_pos k3])
                simp (disch := omega) only [fX12_feed_b23, this, Nat.reduceAdd, Nat.reduceMul, Nat.reduceSub, Nat.zero_add, Nat.add_zero, yp_LT, yp_nA, yp_nM, yp_ltF, yp_ltT, yp_leF, yp_leT, yp_eqF, eq_self, yp_eqM, lt1, yp_sbN, yp_sb2N, ↓reduceIte, ↓yp_iP11, ↓yp_iP12, ↓yp_m0P]
              · by_cases k4 : k < 16
                · have := key d (by rw [if_neg k1, if_neg k2, if_neg k3, if_pos k4])
                  simp (disch := omega) only [fX12_feed_b23, this, Nat.reduceAdd, Nat.reduceMul, Nat.reduceSub, Nat.zero_add, Nat.add_zero, yp_LT, yp_nA, yp_nM, yp_ltF, yp_ltT, yp_leF, yp_leT, yp_eqF, eq_self, yp_eqM, lt1, yp_sbN, yp_sb2N, ↓reduceIte, ↓yp_iP11, ↓yp_iP12, ↓yp_m0P]
                · have := key e (by rw [if_neg k1, if_neg k2, if_neg k3, if_neg k4])
                  simp (disch := omega) only [fX12_feed_b23, this, Nat.reduceAdd, Nat.reduceMul, Nat.reduceSub, Nat.zero_add, Nat.add_zero, yp_LT, yp_nA, yp_nM, yp_ltF, yp_ltT, yp_leF, yp_leT, yp_eqF, eq_self, yp_eqM, lt1, yp_sbN, yp_sb2N, ↓reduceIte, ↓yp_iP11, ↓yp_iP12, ↓yp_m0P]
        · rw [yp_up2_s]; rfl
        · rw [yp_up2_n _ _ (by omega)]
          by_cases e2 : i = k
          · rw [e2, yp_up2_s]
          · rw [yp_up2_n _ _ (by omega)]
            exact j2 i (by omega)
        · rw [yp_up2_n _ _ (by omega), yp_up2_n _ _ (by omega)]
          exact j3 q j q1 q2) (show 20 < FU by rw [yp_FUe]; omega) (s0 := (yp_N 0, yp_m0 B m)) ⟨yp_m0 B m, rfl, c2, fun i hi => absurd hi (Nat.not_lt_zero i), fun _ _ _ _ => rfl⟩
    refine ⟨m6, ?_, ?_, fun q j h => ?_⟩
    · simp (disch := omega) only [fX12_feed, fX12_feed_j120, hM, yp_m0e, c2, g1, g2, Nat.reduceAdd, Nat.reduceMul, Nat.reduceSub, Nat.zero_add, Nat.add_zero, yp_LT, yp_nA, yp_nM, yp_ltF, yp_ltT, yp_leF, yp_leT, yp_eqF, eq_self, yp_eqM, lt1, yp_sbN, yp_sb2N, ↓reduceIte, ↓yp_iP11, ↓yp_iP12, ↓yp_m0P]
    · obtain ⟨h1, h2, ⟨h3, h4⟩, ⟨h5, h6'⟩, ⟨h7, h8, h9⟩, ⟨h10, h11, h12⟩, ⟨h13, h14, h15⟩⟩ := hm0
      refine ⟨h1.fr (fun a j h => g4 a j (by omega) (by omega)), h2.same (fun j => g4 _ j (by omega) (by omega)), ⟨(g4 _ _ (by omega) (by omega)).trans h3, fun i hi k hk => (g4 _ _ (by omega) (by omega)).trans (h4 i hi k hk)⟩, ⟨(g4 _ _ (by omega) (by omega)).trans h5, fun i hi => ⟨fun k hk => (g4 _ _ (by omega) (by omega)).trans ((h6' i hi).1 k hk), (g4 _ _ (by omega) (by omega)).trans (h6' i hi).2.1, fun j hj k hk => (g4 _ _ (by omega) (by omega)).trans ((h6' i hi).2.2 j hj k hk)⟩⟩, ⟨(g4 _ _ (by omega) (by omega)).trans h7, fun i hi => (g4 _ _ (by omega) (by omega)).trans (h8 i hi), fun i hi => (g4 _ _ (by omega) (by omega)).trans (h9 i hi)⟩, ⟨?_, fun k hk => ?_, (g4 _ _ (by omega) (by omega)).trans h12⟩, ⟨(g4 _ _ (by omega) (by omega)).trans h13, (g4 _ _ (by omega) (by omega)).trans h14, (g4 _ _ (by omega) (by omega)).trans h15⟩⟩
      · show m6 (B + 517) 2 = yp_N (yp_sF A + 20)
        rw [g2, hp]
      · have hk : k < yp_sF A + 20 := hk
        show m6 (B + 519) k = if k < yp_sF A then yp_sT A k else yp_fb a b c d e (k - yp_sF A)
        by_cases e1 : k < yp_sF A
        · rw [if_pos e1, g4 _ _ (by omega) (by omega)]
          exact h11 k e1
        · rw [if_neg e1, ← g3 (k - yp_sF A) (by omega), hp, show yp_sF A + (k - yp_sF A) = k by omega]
    · rw [g4 q j (by omega) (by omega), yp_m0n (by omega)]
end FEED

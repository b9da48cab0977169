section PCLG
variable {B : Nat} {mm m : Mem} {A : yp_St}
abbrev yp_ClD : Type := (Nat × Nat × Nat) × (Nat → Nat) × (Nat → Nat × Nat)
set_option maxHeartbeats 1000000 in
theorem yp_c_ccopy {d : yp_ClD} (h : yp_clC B m d) (hg : d.1.2.1 ≤ 8) : ∃ m', fX1_copyFrom (yp_SH B) (B + 3) (B + 7) m = some m' ∧ (m' (B + 3) 3 = yp_N d.1.1 ∧ m' (B + 3) 4 = yp_N d.1.2.1 ∧ m' (B + 3) 5 = yp_N d.1.2.2) ∧ (∀ l, l < 42 → m' (B + 4) l = yp_N (d.2.1 l)) ∧ (∀ g, g < d.1.2.1 → m' (B + 5) g = yp_N (d.2.2 g).1 ∧ m' (B + 6) g = yp_N (d.2.2 g).2) ∧ ∀ a j, ¬ (a = B + 3 ∧ (j = 3 ∨ j = 4 ∨ j = 5)) → a ≠ B + 4 → a ≠ B + 5 → a ≠ B + 6 → m' a j = m a j := by
  obtain ⟨h1, h2, h3, h4, h5⟩ := h
  have hS := yp_cspS B
  have r0 : rR (yp_SH B) 1 (B + 3) 0 = some (B + 4) ∧ rR (yp_SH B) 1 (B + 3) 1 = some (B + 5) ∧ rR (yp_SH B) 1 (B + 3) 2 = some (B + 6) ∧ (∀ mm k v, wI (yp_SH B) mm 1 (B + 3) k v = some (up2 mm (B + 3) k v)) := by
    refine ⟨?_, ?_, ?_, ?_⟩
    · rw [rR, yp_so3]; rfl
    · rw [rR, yp_so3]; rfl
    · rw [rR, yp_so3]; rfl
    · intro mm k v; rw [wI, yp_so3]; rfl
  have u1 := yp_aCN (yp_sa8 B) (yp_sa4 B) m 0 0 42 (by omega) (by omega) (by omega) (by omega)
  obtain ⟨ma, hma⟩ : ∃ ma, ma = cpy2 m (B + 8) (B + 4) 0 0 42 := ⟨_, rfl⟩
  rw [← hma] at u1
  have u2 := yp_aCN (yp_sa9 B) (yp_sa5 B) ma 0 0 8 (by omega) (by omega) (by omega) (by omega)
  obtain ⟨mb, hmb⟩ : ∃ mb, mb = cpy2 ma (B + 9) (B + 5) 0 0 8 := ⟨_, rfl⟩
  rw [← hmb] at u2
  have u3 := yp_aCN (yp_sa10 B) (yp_sa6 B) mb 0 0 8 (by omega) (by omega) (by omega) (by omega)
  obtain ⟨mc, hmc⟩ : ∃ mc, mc = cpy2 mb (B + 10) (B + 6) 0 0 8 := ⟨_, rfl⟩
  rw [← hmc] at u3
  have G : ∀ a j, a ≠ B + 4 → a ≠ B + 5 → a ≠ B + 6 → mc a j = m a j := fun a j q1 q2 q3 => by rw [hmc, yp_cpy_n _ q3, hmb, yp_cpy_n _ q2, hma, yp_cpy_n _ q1]
  have w3 : mc (B + 7) 3 = yp_N d.1.1 := (G _ _ (by omega) (by omega) (by omega)).trans h1
  have w4 : up2 mc (B + 3) 3 (yp_N d.1.1) (B + 7) 4 = yp_N d.1.2.1 := by rw [yp_up2_n _ _ (by omega), G _ _ (by omega) (by omega) (by omega)]; exact h2
  have w5 : up2 (up2 mc (B + 3) 3 (yp_N d.1.1)) (B + 3) 4 (yp_N d.1.2.1) (B + 7) 5 = yp_N d.1.2.2 := by rw [yp_up2_n _ _ (by omega), yp_up2_n _ _ (by omega), G _ _ (by omega) (by omega) (by omega)]; exact h3
  obtain ⟨md, hmd⟩ : ∃ md, md = up2 (up2 (up2 mc (B + 3) 3 (yp_N d.1.1)) (B + 3) 4 (yp_N d.1.2.1)) (B + 3) 5 (yp_N d.1.2.2) := ⟨_, rfl⟩
  have Gd : ∀ a j, ¬ (a = B + 3 ∧ (j = 3 ∨ j = 4 ∨ j = 5)) → md a j = mc a j := fun a j q => by rw [hmd, yp_up2_n _ _ (by omega), yp_up2_n _ _ (by omega), yp_up2_n _ _ (by omega)]
  refine ⟨md, ?_, ⟨?_, ?_, ?_⟩, fun l hl => ?_, fun g hg => ⟨?_, ?_⟩, fun a j q1 q2 q3 q4 => ?_⟩
  · simp (disch := omega) only [fX1_copyFrom, hS, r0, u1, u2, u3, w3, w4, w5, Nat.reduceAdd, Nat.reduceMul, Nat.reduceSub, Nat.zero_add, Nat.add_zero, yp_LT, yp_nA, yp_nM, yp_ltF, yp_ltT, yp_leF, yp_leT, yp_eqF, eq_self, yp_eqM, yp_lt1N, yp_sbN, yp_sb2N, ↓reduceIte, ↓yp_iP11, ↓yp_iP12, ↓yp_m0P]
    rw [hmd]
  · rw [hmd, yp_up2_n _ _ (by omega), yp_up2_n _ _ (by omega), yp_up2_s]
  · rw [hmd, yp_up2_n _ _ (by omega), yp_up2_s]
  · rw [hmd, yp_up2_s]
  · rw [Gd _ _ (by omega), hmc, yp_cpy_n _ (by omega), hmb, yp_cpy_n _ (by omega), hma, yp_cpy_v _ _ _ _ _ hl]; exact h4 l hl
  · rw [Gd _ _ (by omega), hmc, yp_cpy_n _ (by omega), hmb, yp_cpy_v _ _ _ _ _ (by omega), hma, yp_cpy_n _ (by omega)]; exact (h5 g hg).1
  · rw [Gd _ _ (by omega), hmc, yp_cpy_v _ _ _ _ _ (by omega), hmb, yp_cpy_n _ (by omega), hma, yp_cpy_n _ (by omega)]; exact (h5 g hg).2
  · rw [Gd a j q1, G a j q2 q3 q4]
set_option maxHeartbeats 1000000 in
theorem yp_c_plain (B : Nat) (m : Mem) : ∃ m', fX4_becomePlain (yp_SH B) (B + 11) m = some m' ∧ m' (B + 11) 2 = yp_N 5 ∧ (∀ k, k < 5 → m' (B + 12) k = yp_ctok (yp_plainT k)) ∧ ∀ a j, ¬ (a = B + 11 ∧ j = 2) → a ≠ B + 12 → m' a j = m a j := by
  have r0 : rR (yp_SH B) 4 (B + 11) 0 = some (B + 12) ∧ (∀ mm k v, wI (yp_SH B) mm 4 (B + 11) k v = some (up2 mm (B + 11) k v)) ∧ (∀ mm k v, k < 151 → aS (yp_SH B) mm (B + 12) (yp_N k) v = some (up2 mm (B + 12) k v)) := by
    refine ⟨?_, ?_, fun mm k v h => yp_aSN (yp_sa12 B) mm k v h (by omega)⟩
    · rw [rR, yp_so11]; rfl
    · intro mm k v; rw [wI, yp_so11]; rfl
  obtain ⟨m', hm'⟩ : ∃ m', m' = up2 (up2 (up2 (up2 (up2 (up2 m (B + 12) 0 (yp_N 1000)) (B + 12) 1 (yp_N 1)) (B + 12) 2 (yp_N 1100)) (B + 12) 3 (yp_N 1002)) (B + 12) 4 (yp_N 1102)) (B + 11) 2 (yp_N 5) := ⟨_, rfl⟩
  refine ⟨m', ?_, ?_, fun k hk => ?_, fun a j q1 q2 => ?_⟩
  · simp (disch := omega) only [fX4_becomePlain, r0, Nat.reduceAdd, Nat.reduceMul, Nat.reduceSub, Nat.zero_add, Nat.add_zero, yp_LT, yp_nA, yp_nM, yp_ltF, yp_ltT, yp_leF, yp_leT, yp_eqF, eq_self, yp_eqM, yp_lt1N, yp_sbN, yp_sb2N, ↓reduceIte, ↓yp_iP11, ↓yp_iP12, ↓yp_m0P]
    rw [hm']
  · rw [hm', yp_up2_s]
  · have : k = 0 ∨ k = 1 ∨ k = 2 ∨ k = 3 ∨ k = 4 := by omega
    rcases this with rfl | rfl | rfl | rfl | rfl
    · rw [hm', yp_up2_n _ _ (by omega), yp_up2_n _ _ (by omega), yp_up2_n _ _ (by omega), yp_up2_n _ _ (by omega), yp_up2_n _ _ (by omega), yp_up2_s]; try rfl
    · rw [hm', yp_up2_n _ _ (by omega), yp_up2_n _ _ (by omega), yp_up2_n _ _ (by omega), yp_up2_n _ _ (by omega), yp_up2_s]; try rfl
    · rw [hm', yp_up2_n _ _ (by omega), yp_up2_n _ _ (by omega), yp_up2_n _ _ (by omega), yp_up2_s]; try rfl
    · rw [hm', yp_up2_n _ _ (by omega), yp_up2_n _ _ (by omega), yp_up2_s]; try rfl
    · rw [hm', yp_up2_n _ _ (by omega), yp_up2_s]; try rfl
  · rw [hm', yp_up2_n _ _ (by omega), yp_up2_n _ _ (by omega), yp_up2_n _ _ (by omega), yp_up2_n _ _ (by omega), yp_up2_n _ _ (by omega), yp_up2_n _ _ (by omega)]
def yp_clQv (d : yp_ClD) : yp_EnvT := (d.1, (fun k => yp_N (d.2.1 k)), (fun g => yp_N (d.2.2 g).1), (fun g => yp_N (d.2.2 g).2), 5, yp_plainT)
def yp_clA (A : yp_St) (d : yp_ClD) : yp_St := (yp_clQv d, yp_openH (fun k => yp_N (d.2.1 k)), (0, yp_sP A), (0, yp_sJ A), (0, yp_sLp A, yp_sLm A), (0, yp_sT A), -yp_N 1, yp_N 0, yp_sC0 A, yp_sC1 A)
def yp_clJ (d : yp_ClD) : Prop := d.1.1 ≤ 6 ∧ d.1.2.1 ≤ 8 ∧ 10 ≤ d.1.2.2 ∧ d.1.2.2 ≤ 99 ∧ (∀ l, d.2.1 l ≤ 40) ∧ (∀ l, d.1.1 * 7 ≤ l → d.2.1 l = 0) ∧ (∀ g, g < d.1.2.1 → (d.2.2 g).2 ≤ 1)
set_option maxHeartbeats 1000000 in
theorem yp_plainW : yp_WFt yp_plainT 5 := by
  refine ⟨fun k hk => ?_, by decide⟩
  have : k = 0 ∨ k = 1 ∨ k = 2 ∨ k = 3 ∨ k = 4 := by omega
  rcases this with rfl | rfl | rfl | rfl | rfl <;> decide
set_option maxHeartbeats 1000000 in
theorem yp_clEV {d : yp_ClD} (h : yp_clJ d) : yp_EV (yp_clQv d) := by
  obtain ⟨h1, h2, h3, h4, h5, h6, h7⟩ := h
  refine ⟨h1, h2, h3, h4, fun g hg => ?_, (by decide : 5 ≤ 150), yp_plainW, fun k hk => ?_, fun k hk hk2 => ?_⟩
  · have q := h7 g hg
    show yp_N (d.2.2 g).2 = yp_N 0 ∨ yp_N (d.2.2 g).2 = yp_N 1
    have : (d.2.2 g).2 = 0 ∨ (d.2.2 g).2 = 1 := by omega
    rcases this with e | e
    · rw [e]; exact .inl rfl
    · rw [e]; exact .inr rfl
  · have q := h5 k
    show 0 ≤ (yp_N (d.2.1 k)).toInt ∧ (yp_N (d.2.1 k)).toInt ≤ 40
    rw [yp_tiN (by omega)]
    omega
  · show yp_N (d.2.1 k) = yp_N 0
    rw [h6 k hk2]
set_option maxHeartbeats 1000000 in
theorem yp_clHI {d : yp_ClD} (h : yp_clJ d) : yp_HI (yp_clQv d) (yp_openH (fun k => yp_N (d.2.1 k))) := by
  obtain ⟨h1, h2, h3, h4, h5, h6, h7⟩ := h
  have a0 : ∀ k, k < 42 → yp_openH (fun k => yp_N (d.2.1 k)) k = yp_N (d.2.1 k) := fun k hk => if_pos hk
  have a1 : ∀ k, ¬ k < 42 → yp_openH (fun k => yp_N (d.2.1 k)) k = yp_N 0 := fun k hk => if_neg hk
  refine ⟨fun k hk => ?_, fun k hk hk2 => ?_, ?_⟩
  · have q := h5 k
    rw [a0 k hk, a1 (42 + k) (by omega), a1 (126 + k) (by omega), a1 (84 + k) (by omega), yp_tiN (by omega), yp_ti0]
    show 0 ≤ ((d.2.1 k : Nat) : Int) ∧ (0 : Int) ≤ 0 ∧ (0 : Int) ≤ 0 ∧ (0 : Int) ≤ 0 ∧ (0 : Int) < ((d.1.2.2 : Nat) : Int)
    omega
  · rw [a0 k hk, a1 (42 + k) (by omega), a1 (126 + k) (by omega), h6 k hk2]
    exact ⟨rfl, rfl, rfl⟩
  · have e1 : yp_zs (fun k => (yp_openH (fun k => yp_N (d.2.1 k)) k).toInt + (yp_openH (fun k => yp_N (d.2.1 k)) (42 + k)).toInt + (yp_openH (fun k => yp_N (d.2.1 k)) (126 + k)).toInt) 42 ≤ yp_zs (fun _ => (40 : Int)) 42 := yp_zs_le (fun k hk => by
      have q := h5 k
      rw [a0 k hk, a1 (42 + k) (by omega), a1 (126 + k) (by omega), yp_tiN (by omega), yp_ti0]
      omega)
    have e2 : yp_zs (fun _ => (40 : Int)) 42 = 1680 := by decide
    omega
set_option maxHeartbeats 1000000 in
theorem yp_clINV (A : yp_St) {d : yp_ClD} (h : yp_clJ d) : yp_INV (yp_clA A d) :=
  ⟨yp_clEV h, yp_clHI h, ⟨Nat.zero_le 16, fun i hi => absurd hi (Nat.not_lt_zero i)⟩, ⟨Nat.zero_le 3, fun i hi => absurd hi (Nat.not_lt_zero i)⟩, ⟨Nat.zero_le 8, fun i hi => absurd hi (Nat.not_lt_zero i)⟩, Nat.zero_le 600, fun i hi => absurd hi (Nat.not_lt_zero i)⟩
set_option maxHeartbeats 1000000 in
theorem yp_m_sets {d : yp_ClD} (h : yp_clM B m d) (hJ : yp_clJ d) : ∃ m', fX12_sets (yp_SH B) (B + 517) m = some m' ∧ (m' (B + 517) 17 = yp_N d.1.1 ∧ m' (B + 517) 18 = yp_N d.1.2.1 ∧ m' (B + 517) 19 = yp_N d.1.2.2 ∧ m' (B + 517) 26 = yp_N 0 ∧ m' (B + 517) 42 = yp_N 0 ∧ m' (B + 517) 31 = yp_N 0 ∧ m' (B + 517) 49 = yp_N 0 ∧ m' (B + 517) 32 = yp_N 0) ∧ (∀ g, g < d.1.2.1 → m' (B + 523) (2 * g) = yp_N (d.2.2 g).1 ∧ m' (B + 523) (2 * g + 1) = yp_N (d.2.2 g).2) ∧ yp_HM m' (B + 532) (yp_openH (fun k => yp_N (d.2.1 k))) ∧ ∀ a j, ¬ (a = B + 517 ∧ (j = 17 ∨ j = 18 ∨ j = 19 ∨ j = 26 ∨ j = 42 ∨ j = 31 ∨ j = 49 ∨ j = 32)) → a ≠ B + 522 → a ≠ B + 523 → a ≠ B + 532 → m' a j = m a j := by
  have hM := yp_mS B
  have hS := yp_mspS B
  obtain ⟨h1, h2, h3, h4, h5⟩ := h
  obtain ⟨j1, j2, j3, j4, j5, j6, j7⟩ := hJ
  obtain ⟨ma, hma⟩ : ∃ ma, ma = up2 (up2 (up2 m (B + 517) 17 (yp_N d.1.1)) (B + 517) 18 (yp_N d.1.2.1)) (B + 517) 19 (yp_N d.1.2.2) := ⟨_, rfl⟩
  have Ga : ∀ a j, ¬ (a = B + 517 ∧ (j = 17 ∨ j = 18 ∨ j = 19)) → ma a j = m a j := fun a j q => by rw [hma, yp_up2_n _ _ (by omega), yp_up2_n _ _ (by omega), yp_up2_n _ _ (by omega)]
  have v3 : up2 m (B + 517) 17 (yp_N d.1.1) (B + 517) 15 = yp_N d.1.2.1 := by rw [yp_up2_n _ _ (by omega)]; exact h2
  have v5 : up2 (up2 m (B + 517) 17 (yp_N d.1.1)) (B + 517) 18 (yp_N d.1.2.1) (B + 517) 16 = yp_N d.1.2.2 := by rw [yp_up2_n _ _ (by omega), yp_up2_n _ _ (by omega)]; exact h3
  have u1 := yp_c_copies (x0 := B + 517) ma (yp_sa520 B) (yp_sa522 B) 42 (by omega) (by omega) (show B + 520 ≠ B + 522 by omega) (by omega)
  obtain ⟨mb, hmb⟩ : ∃ mb : Mem, mb = fun c j => if c = B + 522 ∧ j < 42 then ma (B + 520) j else ma c j := ⟨_, rfl⟩
  rw [← hmb] at u1
  have u2 := yp_c_copies (x0 := B + 517) mb (yp_sa521 B) (yp_sa523 B) 16 (by omega) (by omega) (show B + 521 ≠ B + 523 by omega) (by omega)
  obtain ⟨mc, hmc⟩ : ∃ mc : Mem, mc = fun c j => if c = B + 523 ∧ j < 16 then mb (B + 521) j else mb c j := ⟨_, rfl⟩
  rw [← hmc] at u2
  have Gb : ∀ a j, a ≠ B + 522 → mb a j = ma a j := fun a j q => by rw [hmb]; exact if_neg (fun z => q z.1)
  have Gc : ∀ a j, a ≠ B + 523 → mc a j = mb a j := fun a j q => by rw [hmc]; exact if_neg (fun z => q z.1)
  obtain ⟨md, hmd⟩ : ∃ md, md = up2 (up2 (up2 (up2 (up2 mc (B + 517) 26 (yp_N 0)) (B + 517) 42 (yp_N 0)) (B + 517) 31 (yp_N 0)) (B + 517) 49 (yp_N 0)) (B + 517) 32 (yp_N 0) := ⟨_, rfl⟩
  have Gd : ∀ a j, ¬ (a = B + 517 ∧ (j = 26 ∨ j = 42 ∨ j = 31 ∨ j = 49 ∨ j = 32)) → md a j = mc a j := fun a j q => by rw [hmd, yp_up2_n _ _ (by omega), yp_up2_n _ _ (by omega), yp_up2_n _ _ (by omega), yp_up2_n _ _ (by omega), yp_up2_n _ _ (by omega)]
  have d17 : md (B + 517) 17 = yp_N d.1.1 := by rw [Gd _ _ (by omega), Gc _ _ (by omega), Gb _ _ (by omega), hma, yp_up2_n _ _ (by omega), yp_up2_n _ _ (by omega), yp_up2_s]
  have d522 : ∀ l, l < d.1.1 * 7 → md (B + 522) l = yp_N (d.2.1 l) := fun l hl => by
    rw [Gd _ _ (by omega), Gc _ _ (by omega)]
    have e : mb (B + 522) l = ma (B + 520) l := by rw [hmb]; exact if_pos ⟨rfl, by omega⟩
    rw [e, Ga _ _ (by omega)]
    exact h4 l hl
  obtain ⟨m', e1, e2, e3⟩ := yp_lpI (step := fun st : Int32 × Mem => fX12_sets_b79 (yp_SH B) (B + 517) st.1 st.2) (fun k st => ∃ m1, st = (yp_N k, m1) ∧ (∀ l, l < k → m1 (B + 532) l = yp_openH (fun k => yp_N (d.2.1 k)) l) ∧ ∀ a j, a ≠ B + 532 → m1 a j = md a j) (fun m1 => (∀ l, l < 175 → m1 (B + 532) l = yp_openH (fun k => yp_N (d.2.1 k)) l) ∧ ∀ a j, a ≠ B + 532 → m1 a j = md a j) 175 (fun k st hk hJ => by
    obtain ⟨m1, rfl, q1, q2⟩ := hJ
    by_cases e : k = 175
    · subst e
      exact .inr ⟨m1, by simp (disch := omega) only [fX12_sets_b79, Nat.reduceAdd, Nat.reduceMul, Nat.reduceSub, Nat.zero_add, Nat.add_zero, yp_LT, yp_nA, yp_nM, yp_ltF, yp_ltT, yp_leF, yp_leT, yp_eqF, eq_self, yp_eqM, yp_lt1N, yp_sbN, yp_sb2N, ↓reduceIte, ↓yp_iP11, ↓yp_iP12, ↓yp_m0P], q1, q2⟩
    · have b17 : m1 (B + 517) 17 = yp_N d.1.1 := (q2 _ _ (by omega)).trans d17
      refine .inl ⟨by omega, (yp_N (k + 1), up2 m1 (B + 532) k (yp_openH (fun k => yp_N (d.2.1 k)) k)), ?_, _, rfl, fun l hl => ?_, fun a j q => ?_⟩
      · by_cases e2 : k < 7 * d.1.1
        · have b522 : m1 (B + 522) k = yp_N (d.2.1 k) := (q2 _ _ (by omega)).trans (d522 k (by omega))
          have o1 : yp_openH (fun k => yp_N (d.2.1 k)) k = yp_N (d.2.1 k) := if_pos (by omega)
          rw [o1]
          simp (disch := omega) only [fX12_sets_b79, fX12_sets_j112, hM, hS, b17, b522, Nat.reduceAdd, Nat.reduceMul, Nat.reduceSub, Nat.zero_add, Nat.add_zero, yp_LT, yp_nA, yp_nM, yp_ltF, yp_ltT, yp_leF, yp_leT, yp_eqF, eq_self, yp_eqM, yp_lt1N, yp_sbN, yp_sb2N, ↓reduceIte, ↓yp_iP11, ↓yp_iP12, ↓yp_m0P]
        · have o1 : yp_openH (fun k => yp_N (d.2.1 k)) k = yp_N 0 := by
            by_cases e3 : k < 42
            · refine (if_pos e3).trans ?_
              show yp_N (d.2.1 k) = yp_N 0
              rw [j6 k (by omega)]
            · exact if_neg e3
          rw [o1]
          simp (disch := omega) only [fX12_sets_b79, fX12_sets_j112, hM, hS, b17, Nat.reduceAdd, Nat.reduceMul, Nat.reduceSub, Nat.zero_add, Nat.add_zero, yp_LT, yp_nA, yp_nM, yp_ltF, yp_ltT, yp_leF, yp_leT, yp_eqF, eq_self, yp_eqM, yp_lt1N, yp_sbN, yp_sb2N, ↓reduceIte, ↓yp_iP11, ↓yp_iP12, ↓yp_m0P]
      · by_cases e2 : l = k
        · rw [e2, yp_up2_s]
        · rw [yp_up2_n _ _ (by omega)]; exact q1 l (by omega)
      · rw [yp_up2_n _ _ (by omega)]; exact q2 a j q) (show 175 < FU by rw [yp_FUe]; omega) (s0 := (yp_N 0, md)) ⟨md, rfl, fun l hl => absurd hl (Nat.not_lt_zero l), fun _ _ _ => rfl⟩
  refine ⟨m', ?_, ⟨?_, ?_, ?_, ?_, ?_, ?_, ?_, ?_⟩, fun g hg => ?_, e2, fun a j q1 q2 q3 q4 => ?_⟩
  · simp (disch := omega) only [fX12_sets_j119, fX12_sets_j112, fX12_sets, hM, hS, h1, v3, v5, ← hma, u1, u2, ← hmd, e1, Nat.reduceAdd, Nat.reduceMul, Nat.reduceSub, Nat.zero_add, Nat.add_zero, yp_LT, yp_nA, yp_nM, yp_ltF, yp_ltT, yp_leF, yp_leT, yp_eqF, eq_self, yp_eqM, yp_lt1N, yp_sbN, yp_sb2N, ↓reduceIte, ↓yp_iP11, ↓yp_iP12, ↓yp_m0P]
  · rw [e3 _ _ (by omega)]; exact d17
  · rw [e3 _ _ (by omega), Gd _ _ (by omega), Gc _ _ (by omega), Gb _ _ (by omega), hma, yp_up2_n _ _ (by omega), yp_up2_s]
  · rw [e3 _ _ (by omega), Gd _ _ (by omega), Gc _ _ (by omega), Gb _ _ (by omega), hma, yp_up2_s]
  · rw [e3 _ _ (by omega), hmd, yp_up2_n _ _ (by omega), yp_up2_n _ _ (by omega), yp_up2_n _ _ (by omega), yp_up2_n _ _ (by omega), yp_up2_s]
  · rw [e3 _ _ (by omega), hmd, yp_up2_n _ _ (by omega), yp_up2_n _ _ (by omega), yp_up2_n _ _ (by omega), yp_up2_s]
  · rw [e3 _ _ (by omega), hmd, yp_up2_n _ _ (by omega), yp_up2_n _ _ (by omega), yp_up2_s]
  · rw [e3 _ _ (by omega), hmd, yp_up2_n _ _ (by omega), yp_up2_s]
  · rw [e3 _ _ (by omega), hmd, yp_up2_s]
  · have q1 : mc (B + 523) (2 * g) = mb (B + 521) (2 * g) := by rw [hmc]; exact if_pos ⟨rfl, by omega⟩
    have q2 : mc (B + 523) (2 * g + 1) = mb (B + 521) (2 * g + 1) := by rw [hmc]; exact if_pos ⟨rfl, by omega⟩
    rw [e3 _ _ (by omega), e3 _ _ (by omega), Gd _ _ (by omega), Gd _ _ (by omega), q1, q2, Gb _ _ (by omega), Gb _ _ (by omega), Ga _ _ (by omega), Ga _ _ (by omega)]
    exact h5 g hg
  · rw [e3 a j q4, Gd a j (by omega), Gc a j q3, Gb a j q2, Ga a j (by omega)]
set_option maxHeartbeats 1000000 in
theorem yp_c_setup {d : yp_ClD} (hJ : yp_clJ d) (h : yp_clC B m d) : ∃ m1 m2 m3 m', fX1_copyFrom (yp_SH B) (B + 3) (B + 7) m = some m1 ∧ fX4_becomePlain (yp_SH B) (B + 11) m1 = some m2 ∧ fX2_open (yp_SH B) (B + 33) (B + 3) (up2 m2 (B + 17) 2 (yp_N 0)) = some m3 ∧ m' = up2 (up2 (up2 m3 (B + 39) 1 (yp_N 0)) B 12 (yp_N 0)) B 13 (yp_N 0) ∧ yp_CLc B m' (yp_clQv d) ∧ yp_HC m' (B + 33) (yp_openH (fun k => yp_N (d.2.1 k))) ∧ m' (B + 39) 1 = yp_N 0 ∧ m' B 12 = yp_N 0 ∧ m' B 13 = yp_N 0 ∧ m' (B + 17) 2 = yp_N 0 ∧ ∀ a j, ¬ (a = B ∧ (j = 12 ∨ j = 13)) → ¬ (B + 3 ≤ a ∧ a ≤ B + 6) → ¬ (a = B + 11 ∨ a = B + 12 ∨ a = B + 17) → ¬ (B + 33 ≤ a ∧ a ≤ B + 39) → m' a j = m a j := by
  obtain ⟨j1, j2, j3, j4, j5, j6, j7⟩ := hJ
  obtain ⟨m1, e1, ⟨e2, e3, e4⟩, e5, e6, e7⟩ := yp_c_ccopy h j2
  obtain ⟨m2, g1, g2, g3, g4⟩ := yp_c_plain B m1
  have r0 : rR (yp_SH B) 1 (B + 3) 0 = some (B + 4) := by rw [rR, yp_so3]; rfl
  obtain ⟨m3, k1, k2, k3⟩ := yp_h_open (mm := up2 m2 (B + 17) 2 (yp_N 0)) (M := fun k => yp_N (d.2.1 k)) (yp_hs33 B) r0 (yp_sa4 B) (fun k hk => by rw [yp_up2_n _ _ (by omega), g4 _ _ (by omega) (by omega)]; exact e5 k hk) (by omega)
  obtain ⟨m', hm'⟩ : ∃ m', m' = up2 (up2 (up2 m3 (B + 39) 1 (yp_N 0)) B 12 (yp_N 0)) B 13 (yp_N 0) := ⟨_, rfl⟩
  have G : ∀ a j, ¬ (a = B ∧ (j = 12 ∨ j = 13)) → ¬ (a = B + 39) → m' a j = m3 a j := fun a j q1 q2 => by rw [hm', yp_up2_n _ _ (by omega), yp_up2_n _ _ (by omega), yp_up2_n _ _ (by omega)]
  have G2 : ∀ a j, ¬ (a = B ∧ (j = 12 ∨ j = 13)) → ¬ (B + 33 ≤ a ∧ a ≤ B + 39) → a ≠ B + 17 → m' a j = m2 a j := fun a j q1 q2 q3 => by
    rw [G a j q1 (by omega), k3 a j (by unfold yp_IH; omega), yp_up2_n _ _ (by omega)]
  refine ⟨m1, m2, m3, m', e1, g1, k1, hm', ⟨?_, ?_, ?_, fun g hg => ?_, fun g hg => ?_, ?_, fun k hk => ?_⟩, k2.same (fun a j q1 q2 => G a j (by omega) (by omega)), ?_, ?_, ?_, ?_, fun a j q1 q2 q3 q4 => ?_⟩
  · rw [G2 _ _ (by omega) (by omega) (by omega), g4 _ _ (by omega) (by omega)]; exact e2
  · rw [G2 _ _ (by omega) (by omega) (by omega), g4 _ _ (by omega) (by omega)]; exact e3
  · rw [G2 _ _ (by omega) (by omega) (by omega), g4 _ _ (by omega) (by omega)]; exact e4
  · rw [G2 _ _ (by omega) (by omega) (by omega), g4 _ _ (by omega) (by omega)]; exact (e6 g hg).1
  · rw [G2 _ _ (by omega) (by omega) (by omega), g4 _ _ (by omega) (by omega)]; exact (e6 g hg).2
  · rw [G2 _ _ (by omega) (by omega) (by omega)]; exact g2
  · rw [G2 _ _ (by omega) (by omega) (by omega)]; exact g3 k hk
  · rw [hm', yp_up2_n _ _ (by omega), yp_up2_n _ _ (by omega), yp_up2_s]
  · rw [hm', yp_up2_n _ _ (by omega), yp_up2_s]
  · rw [hm', yp_up2_s]
  · rw [G _ _ (by omega) (by omega), k3 _ _ (by unfold yp_IH; omega), yp_up2_s]
  · rw [G2 a j q1 q4 (by omega), g4 a j (by omega) (by omega), e7 a j (by omega) (by omega) (by omega) (by omega)]
def yp_z00 : yp_ClT := (0, 0, (0, 0, 60), (fun _ => 0), fun _ => (0, 0))
set_option maxHeartbeats 1000000 in
theorem yp_z00I : yp_clI yp_z00 := ⟨Nat.zero_le 60, Nat.zero_le 6, Nat.zero_le 8, by decide, by decide, fun _ => Nat.zero_le 40, fun _ _ => rfl, fun g hg => absurd hg (Nat.not_lt_zero g)⟩
set_option maxHeartbeats 1000000 in
theorem yp_clI_J {z : yp_ClT} (h : yp_clI z) : yp_clJ z.2.2 := ⟨h.2.1, h.2.2.1, h.2.2.2.1, h.2.2.2.2.1, h.2.2.2.2.2.1, h.2.2.2.2.2.2.1, h.2.2.2.2.2.2.2⟩
set_option maxHeartbeats 1000000 in
theorem yp_c_clear {t : Nat → Nat} {n : Nat} (h : yp_CT B m t n 0) (hf : yp_FL B m = (yp_N 0, -yp_N 1)) : ∃ m1 m2, fJ7_fill_53178 (yp_SH B) (B + 8) (yp_N 0) m1 = some m2 ∧ m1 = up2 (up2 (up2 m (B + 7) 3 (yp_N 0)) (B + 7) 4 (yp_N 0)) (B + 7) 5 (yp_N 60) ∧ yp_CT B m2 t n 0 ∧ yp_FL B m2 = (yp_N 0, -yp_N 1) ∧ yp_clC B m2 yp_z00.2.2 ∧ ∀ a j, ¬ (a = B + 7 ∧ (j = 3 ∨ j = 4 ∨ j = 5)) → a ≠ B + 8 → m2 a j = m a j := by
  obtain ⟨m1, hm1⟩ : ∃ m1, m1 = up2 (up2 (up2 m (B + 7) 3 (yp_N 0)) (B + 7) 4 (yp_N 0)) (B + 7) 5 (yp_N 60) := ⟨_, rfl⟩
  have u1 := yp_c_fill (sh := yp_SH B) (yp_N 0) m1 (yp_sa8 B) (by omega)
  obtain ⟨m2, hm2⟩ : ∃ m2 : Mem, m2 = fun b j => if b = B + 8 ∧ j < 42 then yp_N 0 else m1 b j := ⟨_, rfl⟩
  rw [← hm2] at u1
  have G2 : ∀ a j, a ≠ B + 8 → m2 a j = m1 a j := fun a j q => by rw [hm2]; exact if_neg (fun z => q z.1)
  have G1 : ∀ a j, ¬ (a = B + 7 ∧ (j = 3 ∨ j = 4 ∨ j = 5)) → m1 a j = m a j := fun a j q => by rw [hm1, yp_up2_n _ _ (by omega), yp_up2_n _ _ (by omega), yp_up2_n _ _ (by omega)]
  refine ⟨m1, m2, u1, hm1, h.fr (fun a j q => (G2 a j (by omega)).trans (G1 a j (by omega))), ?_, ⟨?_, ?_, ?_, fun l hl => ?_, fun g hg => absurd hg (Nat.not_lt_zero g)⟩, fun a j q1 q2 => (G2 a j q2).trans (G1 a j q1)⟩
  · rw [← hf]; exact yp_FL_fr (fun j q => (G2 _ j (by omega)).trans (G1 _ j (by omega)))
  · rw [G2 _ _ (by omega), hm1, yp_up2_n _ _ (by omega), yp_up2_n _ _ (by omega), yp_up2_s]; try rfl
  · rw [G2 _ _ (by omega), hm1, yp_up2_n _ _ (by omega), yp_up2_s]; try rfl
  · rw [G2 _ _ (by omega), hm1, yp_up2_s]; try rfl
  · rw [hm2]; exact if_pos ⟨rfl, hl⟩
set_option maxHeartbeats 1000000 in
theorem yp_p_college (hR : yp_RCc B mm A) (hI : yp_INV A) (x : Int32) : yp_PM B (fX11_college (yp_SH B) B x mm) (fun m => fX12_college (yp_SH B) (B + 517) x m) hcI mm A := by
  have hA := yp_clsS B
  have hT := yp_tapS B
  have hS := yp_cspS B
  have hM := yp_mS B
  have hP := yp_clsP B
  have hB := yp_bspS B
  have hB2 := yp_bokS B
  have hL : isO (yp_SH B) 4 (B + 11) = some () := by rw [isO, yp_so11]; rfl
  have h6 := hI.2.2.2.2.2.1
  rcases yp_txtR hR hI x 600 (by omega) with ⟨k, k1, k2, rfl, s1⟩ | ⟨hb, s1⟩
  rotate_left
  · refine yp_PM_e1 hR hI (by simp (disch := omega) only [fX11_college, hA, s1, ↓yp_smLN, ↓yp_smRN, Nat.reduceAdd, Nat.reduceMul, Nat.reduceSub, Nat.zero_add, Nat.add_zero, yp_LT, yp_nA, yp_nM, yp_ltF, yp_ltT, yp_leF, yp_leT, yp_eqF, eq_self, yp_eqM, yp_lt1N, yp_sbN, yp_sb2N, ↓reduceIte, ↓yp_iP11, ↓yp_iP12, ↓yp_m0P]) (fun m hm => ?_) rfl yp_n1
    have e := (yp_m0R hm).2.2.2.2.2.1.1
    rcases hb with h | h | h
    · simp (disch := omega) only [fX12_college_j157, fX12_college_j136, fX12_college_j112, fX12_college_j105, fX12_college_j96, fX12_college_j23, fX12_college_j22, fX12_college, hM, yp_m0e, h, yp_may11, Nat.reduceAdd, Nat.reduceMul, Nat.reduceSub, Nat.zero_add, Nat.add_zero, yp_LT, yp_nA, yp_nM, yp_ltF, yp_ltT, yp_leF, yp_leT, yp_eqF, eq_self, yp_eqM, yp_lt1N, yp_sbN, yp_sb2N, ↓reduceIte, ↓yp_iP11, ↓yp_iP12, ↓yp_m0P]
    · simp (disch := omega) only [fX12_college_j157, fX12_college_j136, fX12_college_j112, fX12_college_j105, fX12_college_j96, fX12_college_j23, fX12_college_j22, fX12_college, hM, yp_m0e, e, h, yp_may11, Nat.reduceAdd, Nat.reduceMul, Nat.reduceSub, Nat.zero_add, Nat.add_zero, yp_LT, yp_nA, yp_nM, yp_ltF, yp_ltT, yp_leF, yp_leT, yp_eqF, eq_self, yp_eqM, yp_lt1N, yp_sbN, yp_sb2N, ↓reduceIte, ↓yp_iP11, ↓yp_iP12, ↓yp_m0P]
    · exfalso
      have q1 := h.2.1
      have q2 := h.2.2
      rw [yp_ltTi, yp_tiN (by omega)] at q1 q2
      omega
  obtain ⟨o1, o2, o3, o4, o5⟩ := yp_opn_v B mm k
  have c0 := yp_opn_T hR hI k1
  obtain ⟨ma, mb, a1, a2, a3, a4, a5, a6⟩ := yp_c_clear c0 (by unfold yp_FL; rw [o4, o5])
  obtain ⟨r, y, g1, g2, g3, g4, g5⟩ := yp_c_clread yp_z00 rfl a3 a4 yp_z00I a5
  have g1 : loopN (fun st : Int32 × Mem => fX1_read_b26 (yp_SH B) (B + 7) (B + 1) st.1 st.2) FU (yp_N 0, mb) = some r := g1
  have goM : ∀ m, yp_RMm B m A → ∃ mc r', mc = up2 (up2 (up2 (yp_beg B (yp_m0 B m) k) (B + 517) 14 (yp_N 0)) (B + 517) 15 (yp_N 0)) (B + 517) 16 (yp_N 60) ∧ loopN (fun st : Int32 × Mem => fX12_college_b44 (yp_SH B) (B + 517) st.1 st.2) FU (yp_N 0, mc) = some r' ∧ yp_clR B mc r' y ∧ ∀ a j, ¬ (a = B + 517 ∧ (j = 14 ∨ j = 15 ∨ j = 16)) → mc a j = yp_beg B (yp_m0 B m) k a j := fun m hm => by
    have hm0 := yp_m0R hm
    obtain ⟨p1, p2, p3, p4, p5, p6⟩ := yp_beg_v B (yp_m0 B m) k
    obtain ⟨mc, hmc⟩ : ∃ mc, mc = up2 (up2 (up2 (yp_beg B (yp_m0 B m) k) (B + 517) 14 (yp_N 0)) (B + 517) 15 (yp_N 0)) (B + 517) 16 (yp_N 60) := ⟨_, rfl⟩
    have G : ∀ a j, ¬ (a = B + 517 ∧ (j = 14 ∨ j = 15 ∨ j = 16)) → mc a j = yp_beg B (yp_m0 B m) k a j := fun a j q => by rw [hmc, yp_up2_n _ _ (by omega), yp_up2_n _ _ (by omega), yp_up2_n _ _ (by omega)]
    obtain ⟨r', y', q1, q2, q3⟩ := yp_m_clread (mm := mc) yp_z00 rfl ((yp_beg_T hm0 hI k1).fr (fun a j q => G a j (by omega))) ((G _ _ (by omega)).trans p4) yp_z00I ⟨by rw [hmc, yp_up2_n _ _ (by omega), yp_up2_n _ _ (by omega), yp_up2_s]; rfl, by rw [hmc, yp_up2_n _ _ (by omega), yp_up2_s]; rfl, by rw [hmc, yp_up2_s]; rfl, fun l hl => absurd hl (Nat.not_lt_zero l), fun g hg => absurd hg (Nat.not_lt_zero g)⟩
    rw [g2] at q2
    obtain rfl : y = y' := Option.some.inj q2
    exact ⟨mc, r', hmc, q1, q3, G⟩
  have eM := fun m (hm : yp_RMm B m A) => (yp_m0R hm).2.2.2.2.2.1.1
  have bgE := fun m => yp_m_begins B (yp_m0 B m) k
  rcases g5 with ⟨y0, m, rfl, F, g7, g8⟩ | ⟨y0, m, rfl, F, g7⟩
  · have hJ := yp_clI_J g4
    obtain ⟨m1, m2, m3, m', e1, e2, e3, e4, e5, e6, e7, e8, e9, e10, e11⟩ := yp_c_setup hJ g8
    have w1 : m' (B + 3) 3 = yp_N y.2.2.2.2.1.1 := e5.1
    have G0 : ∀ a j, ¬ (a = B ∧ (j = 12 ∨ j = 13)) → ¬ (B + 1 ≤ a ∧ a ≤ B + 12) → a ≠ B + 17 → ¬ (B + 33 ≤ a ∧ a ≤ B + 39) → m' a j = mm a j := fun a j q1 q2 q3 q4 => by
      rw [e11 a j q1 (by omega) (by omega) q4, F a j (by unfold yp_TCl; omega), a6 a j (by omega) (by omega), yp_opn_n (by omega)]
    have x1 : yp_RCc B m' (yp_clA A y.2.2.2.2) := by
      refine ⟨e5, e6, ⟨e7, fun i hi => absurd hi (Nat.not_lt_zero i)⟩, ⟨e8, fun i hi => absurd hi (Nat.not_lt_zero i)⟩, ⟨e10, fun i hi => absurd hi (Nat.not_lt_zero i), fun i hi => absurd hi (Nat.not_lt_zero i)⟩, ⟨?_, fun i hi => absurd hi (Nat.not_lt_zero i), ?_⟩, ⟨e9, ?_, ?_⟩, fun q hq => ?_⟩
      · rw [e11 _ _ (by omega) (by omega) (by omega) (by omega), F _ _ (by unfold yp_TCl; omega), a6 _ _ (by omega) (by omega), o1]; rfl
      · rw [e11 _ _ (by omega) (by omega) (by omega) (by omega)]; exact congrArg Prod.snd g7
      · rw [G0 _ _ (by omega) (by omega) (by omega) (by omega)]; exact hR.2.2.2.2.2.2.1.2.1
      · rw [G0 _ _ (by omega) (by omega) (by omega) (by omega)]; exact hR.2.2.2.2.2.2.1.2.2
      · rw [G0 _ _ (by omega) (by omega) (by omega) (by omega)]; exact hR.2.2.2.2.2.2.2 q hq
    refine yp_PM_x (A := A) (yp_clINV A hJ) (v := yp_N y.2.2.2.2.1.1) ?_ x1 (fun a j ha => G0 a j (by omega) (by omega) (by omega) (by omega)) (fun mr hm => ?_)
    · simp (disch := omega) only [fX11_college, fX1_read, fX1_read_j60, hA, hS, hP, hL, hB, hB2, s1, ↓yp_smLN, ↓yp_smRN, ← a2, a1, g1, Sum.elim, e1, e2, e3, ← e4, w1, Nat.reduceAdd, Nat.reduceMul, Nat.reduceSub, Nat.zero_add, Nat.add_zero, yp_LT, yp_nA, yp_nM, yp_ltF, yp_ltT, yp_leF, yp_leT, yp_eqF, eq_self, yp_eqM, yp_lt1N, yp_sbN, yp_sb2N, ↓reduceIte, ↓yp_iP11, ↓yp_iP12, ↓yp_m0P]
    · have hm0 := yp_m0R hm
      obtain ⟨mc, r', hmc, q1, q2, G⟩ := goM mr hm
      obtain ⟨p1, p2, p3, p4, p5, p6⟩ := yp_beg_v B (yp_m0 B mr) k
      rcases q2 with ⟨_, md, rfl, F2, j1, j2⟩ | ⟨q2, _⟩
      · have v1 := yp_m_res1 j1 (yp_N y.2.2.2.2.1.1)
        have v0 := j2.1
        obtain ⟨me, hme⟩ : ∃ me, me = up2 md (B + 517) 8 (-yp_N 1) := ⟨_, rfl⟩
        rw [← hme] at v1
        have Ge : ∀ a j, ¬ (a = B + 517 ∧ j = 8) → me a j = md a j := fun a j q => by rw [hme, yp_up2_n _ _ (by omega)]
        have v2 : me (B + 517) 5 = -yp_N 1 := (Ge _ _ (by omega)).trans j1
        obtain ⟨mf, k3, ⟨k4, k5, k6, k7, k8, k9, k10, k11⟩, k12, k13, k14⟩ := yp_m_sets (m := me) (j2.fr (fun a j q => Ge a j (by omega))) hJ
        have Gf : ∀ a j, ¬ (a = B + 517) → a ≠ B + 520 → a ≠ B + 521 → a ≠ B + 522 → a ≠ B + 523 → a ≠ B + 532 → mf a j = mr a j := fun a j q0 q1 q2 q3 q4 q5 => by
          rw [k14 a j (by omega) q3 q4 q5, Ge a j (by omega), F2 a j (by unfold yp_TCm; omega), G a j (by omega), yp_beg_n (by omega), yp_m0n (by omega)]
        refine ⟨mf, ?_, ⟨⟨k4, k5, k6, fun g hg => (k12 g hg).1, fun g hg => (k12 g hg).2, .inl ⟨k7, rfl, rfl⟩⟩, k13, ⟨k9, fun i hi => absurd hi (Nat.not_lt_zero i)⟩, ⟨k10, fun i hi => absurd hi (Nat.not_lt_zero i)⟩, ⟨k8, fun i hi => absurd hi (Nat.not_lt_zero i), fun i hi => absurd hi (Nat.not_lt_zero i)⟩, ⟨?_, fun i hi => absurd hi (Nat.not_lt_zero i), ?_⟩, ⟨k11, ?_, ?_⟩⟩, ?_, fun a j ha => Gf a j (by omega) (by omega) (by omega) (by omega) (by omega) (by omega)⟩
        · simp (disch := omega) only [fX12_college_j157, fX12_college_j136, fX12_college_j112, fX12_college_j105, fX12_college_j96, fX12_college_j23, fX12_college_j22, fX12_college, fX12_clears, hM, yp_m0e, eM mr hm, yp_mayG, bgE, ← hmc, q1, Sum.elim, v0, v1, v2, k3, Nat.reduceAdd, Nat.reduceMul, Nat.reduceSub, Nat.zero_add, Nat.add_zero, yp_LT, yp_nA, yp_nM, yp_ltF, yp_ltT, yp_leF, yp_leT, yp_eqF, eq_self, yp_eqM, yp_lt1N, yp_sbN, yp_sb2N, ↓reduceIte, ↓yp_iP11, ↓yp_iP12, ↓yp_m0P]
        · rw [k14 _ _ (by omega) (by omega) (by omega) (by omega), Ge _ _ (by omega), F2 _ _ (by unfold yp_TCm; omega), G _ _ (by omega), p1]; rfl
        · rw [k14 _ _ (by omega) (by omega) (by omega) (by omega), hme, yp_up2_s]; try rfl
        · rw [Gf _ _ (by omega) (by omega) (by omega) (by omega) (by omega) (by omega)]; exact hm.2.2.2.2.2.2.2.1
        · rw [Gf _ _ (by omega) (by omega) (by omega) (by omega) (by omega) (by omega)]; exact hm.2.2.2.2.2.2.2.2
        · rw [k14 _ _ (by omega) (by omega) (by omega) (by omega), Ge _ _ (by omega), F2 _ _ (by unfold yp_TCm; omega), G _ _ (by omega), yp_beg_n (by omega), yp_m0t]
      · exact absurd y0 q2
  · have u1 : m (B + 1) 4 = yp_N y.1 := congrArg Prod.fst g7
    have u2 : m (B + 1) 5 = yp_N y.2.1 := congrArg Prod.snd g7
    have y1 : y.2.1 ≤ 600 := g3.2
    refine yp_PM_f hR hI (k := y.1) (x := y.2.1) (m1 := m) ?_ (fun a j h1 h2 => ?_) ?_ u2 (fun mr hm => ?_)
    · simp (disch := omega) only [fX11_college, fX1_read, fX1_read_j52, hA, hT, hS, s1, ↓yp_smLN, ↓yp_smRN, ← a2, a1, g1, Sum.elim, u1, Nat.reduceAdd, Nat.reduceMul, Nat.reduceSub, Nat.zero_add, Nat.add_zero, yp_LT, yp_nA, yp_nM, yp_ltF, yp_ltT, yp_leF, yp_leT, yp_eqF, eq_self, yp_eqM, yp_lt1N, yp_sbN, yp_sb2N, ↓reduceIte, ↓yp_iP11, ↓yp_iP12, ↓yp_m0P]
    · rw [F a j (by unfold yp_KC at h1; unfold yp_TCl; omega), a6 a j (by unfold yp_KC at h1; omega) (by unfold yp_KC at h1; omega), yp_opn_n (by omega)]
    · rw [F _ _ (by unfold yp_TCl; omega), a6 _ _ (by omega) (by omega), o1]
    · obtain ⟨mc, r', hmc, q1, q2, G⟩ := goM mr hm
      obtain ⟨p1, p2, p3, p4, p5, p6⟩ := yp_beg_v B (yp_m0 B mr) k
      rcases q2 with ⟨q2, _⟩ | ⟨_, md, hr', F2, j1, j2⟩
      · exact absurd q2 y0
      · have e1 := fun v => yp_m_res0 (v := v) (by omega) j1 j2
        have e2 : up2 md (B + 517) 8 (yp_N y.2.1) (B + 517) 5 = yp_N y.2.1 := by rw [yp_up2_n _ _ (by omega)]; exact j1
        have e3 : (yp_N y.2.1 = -yp_N 1) = False := yp_eqM (by omega)
        refine ⟨up2 md (B + 517) 8 (yp_N y.2.1), ?_, fun a j h1 h2 => ?_, ?_, ?_, yp_up2_s _ _ _ _⟩
        · rcases hr' with rfl | rfl
          · simp (disch := omega) only [fX12_college_j157, fX12_college_j136, fX12_college_j112, fX12_college_j105, fX12_college_j96, fX12_college_j23, fX12_college_j22, fX12_college, fX12_clears, hM, yp_m0e, eM mr hm, yp_mayG, bgE, ← hmc, q1, Sum.elim, e1, e2, e3, Nat.reduceAdd, Nat.reduceMul, Nat.reduceSub, Nat.zero_add, Nat.add_zero, yp_LT, yp_nA, yp_nM, yp_ltF, yp_ltT, yp_leF, yp_leT, yp_eqF, eq_self, yp_eqM, yp_lt1N, yp_sbN, yp_sb2N, ↓reduceIte, ↓yp_iP11, ↓yp_iP12, ↓yp_m0P]
          · simp (disch := omega) only [fX12_college_j157, fX12_college_j136, fX12_college_j112, fX12_college_j105, fX12_college_j96, fX12_college_j23, fX12_college_j22, fX12_college, fX12_clears, hM, yp_m0e, eM mr hm, yp_mayG, bgE, ← hmc, q1, Sum.elim, e1, e2, e3, Nat.reduceAdd, Nat.reduceMul, Nat.reduceSub, Nat.zero_add, Nat.add_zero, yp_LT, yp_nA, yp_nM, yp_ltF, yp_ltT, yp_leF, yp_leT, yp_eqF, eq_self, yp_eqM, yp_lt1N, yp_sbN, yp_sb2N, ↓reduceIte, ↓yp_iP11, ↓yp_iP12, ↓yp_m0P]
        · rw [yp_up2_n _ _ (by unfold yp_KM at h1; omega), F2 a j (by unfold yp_KM at h1; unfold yp_TCm; omega), G a j (by unfold yp_KM at h1; omega), yp_beg_n (by unfold yp_KM at h1; omega), yp_m0_KM h1]
        · rw [yp_up2_n _ _ (by omega), F2 _ _ (by unfold yp_TCm; omega), G _ _ (by omega), yp_beg_n (by omega), yp_m0t]
        · rw [yp_up2_n _ _ (by omega), F2 _ _ (by unfold yp_TCm; omega), G _ _ (by omega), p1]
end PCLG

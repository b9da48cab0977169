section PWDO
variable {B : Nat} {mm : Mem} {A : yp_St}
def yp_wkA (A : yp_St) (H : yp_HallT) (r : Int32) : yp_St := (A.1, H, (yp_sW A + 1, fun i => if i = yp_sW A then yp_sH A else yp_sP A i), A.2.2.2.1, A.2.2.2.2.1, A.2.2.2.2.2.1, A.2.2.2.2.2.2.1, r, A.2.2.2.2.2.2.2.2.1, A.2.2.2.2.2.2.2.2.2)
set_option maxHeartbeats 1000000 in
theorem yp_INV.wk (hI : yp_INV A) {H : yp_HallT} (hH : yp_HI (yp_sQ A) H) (h : yp_sW A < 16) (r : Int32) : yp_INV (yp_wkA A H r) :=
  ⟨hI.1, hH, ⟨h, fun i hi => by
    show yp_HI (yp_sQ A) (if i = yp_sW A then yp_sH A else yp_sP A i)
    have hi : i < yp_sW A + 1 := hi
    by_cases e : i = yp_sW A
    · rw [if_pos e]; exact hI.2.1
    · rw [if_neg e]; exact hI.2.2.1.2 i (by omega)⟩, hI.2.2.2⟩
set_option maxHeartbeats 1000000 in
theorem yp_RCc.wk (hR : yp_RCc B mm A) (hI : yp_INV A) {m : Mem} {H : yp_HallT} {r : Int32} (h16 : yp_sW A < 16) (hF : ∀ a j, yp_KC B a j → ¬ (a = B ∧ j = 13) → ¬ (a = B + 39 ∧ j = 1) → ¬ (B + 33 ≤ a ∧ a ≤ B + 38) → ¬ (B + (41 + 6 * yp_sW A) ≤ a ∧ a ≤ B + (46 + 6 * yp_sW A)) → m a j = mm a j) (e1 : yp_HC m (B + 33) H) (e2 : m (B + 39) 1 = yp_N (yp_sW A + 1)) (e3 : yp_HC m (B + (41 + 6 * yp_sW A)) (yp_sH A)) (e4 : m B 13 = r) : yp_RCc B m (yp_wkA A H r) := by
  have g : ∀ a j, yp_KC B a j → ¬ (a = B ∧ j = 13) → ¬ (B + 33 ≤ a ∧ a ≤ B + 136) → m a j = mm a j := fun a j q1 q2 q3 => hF a j q1 q2 (by omega) (by omega) (by omega)
  obtain ⟨h1, h2, ⟨h3, h4⟩, ⟨h5, h6⟩, ⟨h7, h8, h9⟩, ⟨h10, h11, h12⟩, ⟨h13, h14, h15⟩, h17⟩ := hR
  have iI := hI.2.2.2.1.1
  refine ⟨h1.fr (fun a j h => (g _ _ (by unfold yp_KC; omega) (by omega) (by omega))), e1, ⟨e2, fun i hi => ?_⟩, ⟨(g _ _ (by unfold yp_KC; omega) (by omega) (by omega)).trans h5, fun i (hi : i < yp_sI A) => ⟨(h6 i hi).1.same (fun a j q1 q2 => (g _ _ (by unfold yp_KC; omega) (by omega) (by omega))), (g _ _ (by unfold yp_KC; omega) (by omega) (by omega)).trans (h6 i hi).2.1, fun j (hj : j < (yp_sJ A i).2.1) => ((h6 i hi).2.2 j hj).same (fun a q q1 q2 => g _ _ (by have := (hI.2.2.2.1.2 i hi).2.1; unfold yp_KC; omega) (by omega) (by omega))⟩⟩, ⟨(g _ _ (by unfold yp_KC; omega) (by omega) (by omega)).trans h7, fun i hi => (g _ _ (by unfold yp_KC; omega) (by omega) (by omega)).trans (h8 i hi), fun i hi => (g _ _ (by unfold yp_KC; omega) (by omega) (by omega)).trans (h9 i hi)⟩, ⟨(g _ _ (by unfold yp_KC; omega) (by omega) (by omega)).trans h10, fun k hk => (g _ _ (by unfold yp_KC; omega) (by omega) (by omega)).trans (h11 k hk), (g _ _ (by unfold yp_KC; omega) (by omega) (by omega)).trans h12⟩, ⟨e4, (g _ _ (by unfold yp_KC; omega) (by omega) (by omega)).trans h14, (g _ _ (by unfold yp_KC; omega) (by omega) (by omega)).trans h15⟩, fun k hk => (g _ _ (by unfold yp_KC; omega) (by omega) (by omega)).trans (h17 k hk)⟩
  have hi : i < yp_sW A + 1 := hi
  show yp_HC m (B + (41 + 6 * i)) (if i = yp_sW A then yp_sH A else yp_sP A i)
  by_cases e : i = yp_sW A
  · rw [if_pos e, e]; exact e3
  · rw [if_neg e]
    exact (h4 i (by omega)).same (fun a j q1 q2 => hF a j (by unfold yp_KC; omega) (by omega) (by omega) (by omega) (by omega))
set_option maxHeartbeats 1000000 in
theorem yp_RMm.wk {m m' : Mem} (hR : yp_RMm B m A) {H : yp_HallT} {r : Int32} (g : ∀ a j, yp_KM B a j → ¬ (a = B + 517 ∧ (j = 31 ∨ j = 32)) → a ≠ B + 532 → ¬ (a = B + 534 ∧ 175 * yp_sW A ≤ j) → m' a j = m a j) (e1 : yp_HM m' (B + 532) H) (e2 : m' (B + 517) 31 = yp_N (yp_sW A + 1)) (e3 : ∀ k, k < 175 → m' (B + 534) (175 * yp_sW A + k) = yp_sH A k) (e4 : m' (B + 517) 32 = r) : yp_RMm B m' (yp_wkA A H r) := by
  obtain ⟨h1, h2, ⟨h3, h4⟩, ⟨h5, h6⟩, ⟨h7, h8, h9⟩, ⟨h10, h11, h12⟩, ⟨h13, h14, h15⟩⟩ := hR
  refine ⟨h1.fr (fun a j h => (g _ _ (by unfold yp_KM; omega) (by omega) (by omega) (by omega))), e1, ⟨e2, fun i hi k hk => ?_⟩, ⟨(g _ _ (by unfold yp_KM; omega) (by omega) (by omega) (by omega)).trans h5, fun i hi => ⟨fun k hk => (g _ _ (by unfold yp_KM; omega) (by omega) (by omega) (by omega)).trans ((h6 i hi).1 k hk), (g _ _ (by unfold yp_KM; omega) (by omega) (by omega) (by omega)).trans (h6 i hi).2.1, fun j hj k hk => (g _ _ (by unfold yp_KM; omega) (by omega) (by omega) (by omega)).trans ((h6 i hi).2.2 j hj k hk)⟩⟩, ⟨(g _ _ (by unfold yp_KM; omega) (by omega) (by omega) (by omega)).trans h7, fun i hi => (g _ _ (by unfold yp_KM; omega) (by omega) (by omega) (by omega)).trans (h8 i hi), fun i hi => (g _ _ (by unfold yp_KM; omega) (by omega) (by omega) (by omega)).trans (h9 i hi)⟩, ⟨(g _ _ (by unfold yp_KM; omega) (by omega) (by omega) (by omega)).trans h10, fun k hk => (g _ _ (by unfold yp_KM; omega) (by omega) (by omega) (by omega)).trans (h11 k hk), (g _ _ (by unfold yp_KM; omega) (by omega) (by omega) (by omega)).trans h12⟩, ⟨e4, (g _ _ (by unfold yp_KM; omega) (by omega) (by omega) (by omega)).trans h14, (g _ _ (by unfold yp_KM; omega) (by omega) (by omega) (by omega)).trans h15⟩⟩
  have hi : i < yp_sW A + 1 := hi
  show m' (B + 534) (175 * i + k) = (if i = yp_sW A then yp_sH A else yp_sP A i) k
  by_cases e : i = yp_sW A
  · rw [if_pos e, e]; exact e3 k hk
  · rw [if_neg e]
    exact (g _ _ (by unfold yp_KM; omega) (by omega) (by omega) (by omega)).trans (h4 i (by omega) k hk)
set_option maxHeartbeats 1000000 in
theorem yp_wdo (hR : yp_RCc B mm A) (hI : yp_INV A) {len : Nat} {R : Nat → yp_Rw} (h16 : yp_sW A < 16) (hl : len ≤ 37) (hok : yp_rwsOK (yp_qf (yp_sQ A)) (yp_qg (yp_sQ A)) 0 0 len R) (hrow : ∀ k, k < len → yp_rowC B mm k (R k)) (h8 : mm (B + 27) 8 = yp_N len) (h9 : mm (B + 27) 9 = yp_N 0) (h10 : mm (B + 27) 10 = yp_N 0) (h11 : mm (B + 27) 11 = yp_N 0) : ∃ s' : yp_PfS, yp_HI (yp_sQ A) s'.1 ∧ (∃ m1 m2, fX7_push (yp_SH B) (B + 39) (B + 33) mm = some m1 ∧ m1 (B + 27) 8 = yp_N len ∧ fX10_perform (yp_SH B) DP (B + 27) (B + 33) (yp_N 0) (yp_N len) (yp_N 0) m1 = some m2 ∧ m2 (B + 27) 10 = yp_N s'.2.2.1 ∧ m2 (B + 27) 11 = yp_N s'.2.2.2 ∧ yp_RCc B (up2 m2 B 13 (yp_N s'.2.2.2)) (yp_wkA A s'.1 (yp_N s'.2.2.2)) ∧ ∀ a j, B + 517 ≤ a → m2 a j = mm a j) ∧ (∀ m, yp_RMm B m A → (∀ k, k < len → yp_rowM B m k (R k)) → m (B + 517) 30 = yp_N (4 * len) → m (B + 517) 0 = yp_N 0 → ∃ ma mb m2, fX12_copies (yp_SH B) (B + 517) (B + 530) (B + 531) (yp_N (4 * len)) m = some ma ∧ loopN (fun st : Int32 × Mem => fX12_work_b123 (yp_SH B) (B + 517) st.1 st.2) FU (yp_N 0, ma) = some mb ∧ fX12_work_j157 (yp_SH B) (B + 517) mb = some (yp_N s'.2.2.1, m2) ∧ yp_RMm B m2 (yp_wkA A s'.1 (yp_N s'.2.2.2)) ∧ m2 (B + 517) 0 = yp_N 0 ∧ ∀ a j, a < B + 517 ∨ B + 542 ≤ a → m2 a j = m a j) := by
  have hP := yp_clsP B
  have hM := yp_mS B
  have hT := yp_refT B
  have c1 := hR.2.2.1.1
  obtain ⟨yp_mk, k1, k2, k3⟩ := yp_h_copy (yp_hsP B (yp_sW A) h16) (yp_hs33 B) hR.2.1 (by omega)
  have hX := (yp_HSx (yp_hsP B (yp_sW A) h16)).1.2.1
  have ar := yp_ar40 B (yp_sW A) h16
  obtain ⟨m1, hm1⟩ : ∃ m1, m1 = up2 yp_mk (B + 39) 1 (yp_N (yp_sW A + 1)) := ⟨_, rfl⟩
  have G1 : ∀ a j, ¬ (a = B + 39 ∧ j = 1) → ¬ (B + (41 + 6 * yp_sW A) ≤ a ∧ a ≤ B + (46 + 6 * yp_sW A)) → m1 a j = mm a j := fun a j q1 q2 => by
    rw [hm1, yp_up2_n _ _ (by omega), k3 a j (by unfold yp_IH; omega)]
  have u1 : yp_mk (B + 39) 1 = yp_N (yp_sW A) := (k3 _ _ (by unfold yp_IH; omega)).trans c1
  have p1 : fX7_push (yp_SH B) (B + 39) (B + 33) mm = some m1 := by simp (disch := omega) only [↓yp_lt1N, fX7_push, fX7_push_j32, hP, c1, ar, hX, k1, u1, ← hm1, Nat.reduceAdd, Nat.reduceMul, Nat.reduceSub, Nat.zero_add, Nat.add_zero, yp_LT, yp_nA, yp_nM, yp_ltF, yp_ltT, yp_leF, yp_leT, yp_eqF, eq_self, yp_eqM, yp_lt1N, yp_sbN, yp_sb2N, ↓reduceIte, ↓yp_iP11, ↓yp_iP12, ↓yp_m0P]
  have hB : yp_BAS B (yp_sQ A) R len m1 := ⟨⟨hI.1, by omega⟩, hok, hR.1.fr (fun a j q => G1 a j (by omega) (by omega)), fun k hk => (hrow k hk).fr (fun a q1 q2 => G1 a k (by omega) (by omega))⟩
  obtain ⟨s', yp_b1, b2, b3, b4⟩ := yp_K_perf hB 6 0 rfl 3 3 0 len (yp_sH A, 0, 0, 0) (by omega) (Nat.le_refl _) (fun j _ _ => Nat.zero_le _) ⟨hI.2.1, Nat.zero_le 200⟩
  obtain ⟨m2, c2, c3, c4, c5, c6, c7⟩ := b3 m1 ⟨yp_Fr.rf, hR.2.1.same (fun a j q1 q2 => G1 a j (by omega) (by omega)), (G1 _ _ (by omega) (by omega)).trans h9, (G1 _ _ (by omega) (by omega)).trans h10, (G1 _ _ (by omega) (by omega)).trans h11⟩
  refine ⟨s', b2.1, ⟨m1, m2, p1, (G1 _ _ (by omega) (by omega)).trans h8, c2, c6, c7, ?_, fun a j q => ?_⟩, fun m hm hrm h30 h0 => ?_⟩
  · refine hR.wk hI h16 (fun a j q1 q2 q3 q4 q5 => ?_) (c4.same (fun a j q1 q2 => yp_up2_n _ _ (by omega))) ?_ ?_ (yp_up2_s _ _ _ _)
    · rw [yp_up2_n _ _ (by omega), c3 a j (by unfold yp_KC at q1; unfold yp_TPc; omega), G1 a j q3 q5]
    · rw [yp_up2_n _ _ (by omega), c3 _ _ (by unfold yp_TPc; omega), hm1, yp_up2_s]
    · refine k2.same (fun a j q1 q2 => ?_)
      rw [yp_up2_n _ _ (by omega), c3 _ _ (by unfold yp_TPc; omega), hm1, yp_up2_n _ _ (by omega)]
  · rw [c3 a j (by unfold yp_TPc; omega), G1 a j (by omega) (by omega)]
  · have v1 := hm.2.2.1.1
    have t1 := yp_c_copies (x0 := B + 517) m (yp_sa530 B) (yp_sa531 B) (4 * len) (by omega) (by omega) (show B + 530 ≠ B + 531 by omega) (by omega)
    obtain ⟨ma, hma⟩ : ∃ ma : Mem, ma = fun c j => if c = B + 531 ∧ j < 4 * len then m (B + 530) j else m c j := ⟨_, rfl⟩
    rw [← hma] at t1
    have Ga : ∀ a j, a ≠ B + 531 → ma a j = m a j := fun a j q => by rw [hma]; exact if_neg (fun z => q z.1)
    have Gr : ∀ j, j < 4 * len → ma (B + 531) j = m (B + 530) j := fun j q => by rw [hma]; exact if_pos ⟨rfl, q⟩
    obtain ⟨mb, g1, g2, g3⟩ := yp_c_rowcpy (mm := ma) (a := B + 532) (b := B + 534) (n0 := 0) (yp_n1 := 0) (x0 := 0) (step := fun st : Int32 × Mem => fX12_work_b123 (yp_SH B) (B + 517) st.1 st.2) 175 0 (175 * yp_sW A) (by omega) (by omega) (fun i m' hi hf => by
      have e := ((hf (B + 517) 31 (by omega)).trans (Ga _ _ (by omega))).trans v1
      simp (disch := omega) only [↓yp_lt1N, fX12_work_b123, hM, hT, e, Nat.reduceAdd, Nat.reduceMul, Nat.reduceSub, Nat.zero_add, Nat.add_zero, yp_LT, yp_nA, yp_nM, yp_ltF, yp_ltT, yp_leF, yp_leT, yp_eqF, eq_self, yp_eqM, yp_lt1N, yp_sbN, yp_sb2N, ↓reduceIte, ↓yp_iP11, ↓yp_iP12, ↓yp_m0P]) (fun m' hf => by simp (disch := omega) only [↓yp_lt1N, fX12_work_b123, Nat.reduceAdd, Nat.reduceMul, Nat.reduceSub, Nat.zero_add, Nat.add_zero, yp_LT, yp_nA, yp_nM, yp_ltF, yp_ltT, yp_leF, yp_leT, yp_eqF, eq_self, yp_eqM, yp_lt1N, yp_sbN, yp_sb2N, ↓reduceIte, ↓yp_iP11, ↓yp_iP12, ↓yp_m0P])
    have Gb : ∀ a j, a ≠ B + 531 → ¬ (a = B + 534 ∧ 175 * yp_sW A ≤ j) → mb a j = m a j := fun a j q1 q2 => by rw [g3 a j (by omega), Ga a j q1]
    have w1 : mb (B + 517) 31 = yp_N (yp_sW A) := (Gb _ _ (by omega) (by omega)).trans v1
    obtain ⟨mc, hmc⟩ : ∃ mc, mc = up2 mb (B + 517) 31 (yp_N (yp_sW A + 1)) := ⟨_, rfl⟩
    have Gc : ∀ a j, ¬ (a = B + 517 ∧ j = 31) → mc a j = mb a j := fun a j q => by rw [hmc, yp_up2_n _ _ (by omega)]
    obtain ⟨md, t2, t3, t4⟩ := yp_m_take (mm := mc) (H := yp_sH A) (hm.2.1.same (fun j => (Gc _ _ (by omega)).trans (Gb _ _ (by omega) (by omega))))
    obtain ⟨me, hme⟩ : ∃ me, me = up2 (up2 (up2 md (B + 517) 33 (yp_N 0)) (B + 517) 34 (yp_N 0)) (B + 517) 35 (yp_N 0) := ⟨_, rfl⟩
    have Ge : ∀ a j, ¬ (a = B + 517 ∧ (j = 33 ∨ j = 34 ∨ j = 35)) → me a j = md a j := fun a j q => by rw [hme, yp_up2_n _ _ (by omega), yp_up2_n _ _ (by omega), yp_up2_n _ _ (by omega)]
    have G : ∀ a j, ¬ (a = B + 517 ∧ (j = 31 ∨ j = 33 ∨ j = 34 ∨ j = 35)) → a ≠ B + 531 → a ≠ B + 533 → ¬ (a = B + 534 ∧ 175 * yp_sW A ≤ j) → me a j = m a j := fun a j q1 q2 q3 q4 => by
      rw [Ge a j (by omega), t4 a j (by unfold yp_FS; omega), Gc a j (by omega), Gb a j q2 q4]
    have r31 : ∀ j, j < 4 * len → me (B + 531) j = m (B + 530) j := fun j q => by
      rw [Ge _ j (by omega), t4 _ j (by unfold yp_FS; omega), Gc _ j (by omega), g3 _ _ (by omega), Gr j q]
    have w3 : me (B + 517) 30 = yp_N (4 * len) := (G _ _ (by omega) (by omega) (by omega) (by omega)).trans h30
    have bm : yp_BAM B (yp_sQ A) R len me := ⟨hm.1.fr (fun a j q => G a j (by omega) (by omega) (by omega) (by omega)), fun k hk => by
      obtain ⟨x1, x2, x3, x4⟩ := hrm k hk
      exact ⟨(r31 _ (by omega)).trans x1, (r31 _ (by omega)).trans x2, (r31 _ (by omega)).trans x3, (r31 _ (by omega)).trans x4⟩⟩
    obtain ⟨mf, d1, d2, d3, d4, d5, d6⟩ := b4 me bm me ⟨yp_Fr.rf, t3.same (fun j => Ge _ _ (by omega)), by rw [hme, yp_up2_n _ _ (by omega), yp_up2_n _ _ (by omega), yp_up2_s], by rw [hme, yp_up2_n _ _ (by omega), yp_up2_s], by rw [hme, yp_up2_s]⟩
    have d1 : fX12_goesSteps (yp_SH B) DP (B + 517) (yp_N 0) (yp_N (4 * len)) me = some mf := d1
    have t5 := yp_c_copies (x0 := B + 517) mf (yp_sa533 B) (yp_sa532 B) 175 (by omega) (by omega) (show B + 533 ≠ B + 532 by omega) (by omega)
    obtain ⟨mg, hmg⟩ : ∃ mg : Mem, mg = fun c j => if c = B + 532 ∧ j < 175 then mf (B + 533) j else mf c j := ⟨_, rfl⟩
    rw [← hmg] at t5
    have Gg : ∀ a j, a ≠ B + 532 → mg a j = mf a j := fun a j q => by rw [hmg]; exact if_neg (fun z => q z.1)
    have w5 : mg (B + 517) 35 = yp_N s'.2.2.2 := (Gg _ _ (by omega)).trans d6
    obtain ⟨mh, hmh⟩ : ∃ mh, mh = up2 mg (B + 517) 32 (yp_N s'.2.2.2) := ⟨_, rfl⟩
    have w6 : mh (B + 517) 34 = yp_N s'.2.2.1 := by rw [hmh, yp_up2_n _ _ (by omega), Gg _ _ (by omega)]; exact d5
    have Gh : ∀ a j, ¬ (a = B + 517 ∧ (j = 31 ∨ j = 32 ∨ j = 33 ∨ j = 34 ∨ j = 35)) → a ≠ B + 528 → a ≠ B + 529 → a ≠ B + 531 → a ≠ B + 532 → a ≠ B + 533 → a ≠ B + 535 → ¬ (a = B + 534 ∧ 175 * yp_sW A ≤ j) → mh a j = m a j := fun a j q1 q2 q3 q4 q5 q6 q7 q8 => by
      rw [hmh, yp_up2_n _ _ (by omega), Gg a j q5, d2 a j (by unfold yp_TPm; omega), G a j (by omega) q4 q6 q8]
    refine ⟨ma, mb, mh, t1, g1, ?_, hm.wk (fun a j q1 q2 q3 q4 => Gh a j (by unfold yp_KM at q1; omega) (by unfold yp_KM at q1; omega) (by unfold yp_KM at q1; omega) (by unfold yp_KM at q1; omega) q3 (by unfold yp_KM at q1; omega) (by unfold yp_KM at q1; omega) q4) (fun k hk => ?_) ?_ (fun k hk => ?_) ?_, (Gh _ _ (by omega) (by omega) (by omega) (by omega) (by omega) (by omega) (by omega) (by omega)).trans h0, fun a j q => Gh a j (by omega) (by omega) (by omega) (by omega) (by omega) (by omega) (by omega) (by omega)⟩
    · simp (disch := omega) only [↓yp_lt1N, fX12_work_j157, hM, w1, ← hmc, t2, ← hme, w3, d1, t5, w5, ← hmh, w6, Nat.reduceAdd, Nat.reduceMul, Nat.reduceSub, Nat.zero_add, Nat.add_zero, yp_LT, yp_nA, yp_nM, yp_ltF, yp_ltT, yp_leF, yp_leT, yp_eqF, eq_self, yp_eqM, yp_lt1N, yp_sbN, yp_sb2N, ↓reduceIte, ↓yp_iP11, ↓yp_iP12, ↓yp_m0P]
    · rw [hmh, yp_up2_n _ _ (by omega), hmg]
      exact (if_pos ⟨rfl, hk⟩).trans (d3 k hk)
    · rw [hmh, yp_up2_n _ _ (by omega), Gg _ _ (by omega), d2 _ _ (by unfold yp_TPm; omega), Ge _ _ (by omega), t4 _ _ (by unfold yp_FS; omega), hmc, yp_up2_s]
    · rw [hmh, yp_up2_n _ _ (by omega), Gg _ _ (by omega), d2 _ _ (by unfold yp_TPm; omega), Ge _ _ (by omega), t4 _ _ (by unfold yp_FS; omega), Gc _ _ (by omega), g2 k hk, Ga _ _ (by omega), Nat.zero_add]
      exact hm.2.1 k hk
    · rw [hmh, yp_up2_s]
end PWDO

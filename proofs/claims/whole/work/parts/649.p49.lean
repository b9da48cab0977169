section PLAW
variable {B : Nat} {mm : Mem} {A : yp_St}
def yp_lwQ (Q : yp_EnvT) (l : Nat) (tk : Nat → Nat × Nat) : yp_EnvT := (Q.1, Q.2.1, Q.2.2.1, Q.2.2.2.1, l, tk)
def yp_lwA (A : yp_St) (l : Nat) (tk : Nat → Nat × Nat) : yp_St := (yp_lwQ A.1 l tk, A.2)
set_option maxHeartbeats 1000000 in
theorem yp_INV.lw (hI : yp_INV A) {l : Nat} {tk : Nat → Nat × Nat} (hl : l ≤ 150) (hw : yp_WFt tk l) : yp_INV (yp_lwA A l tk) :=
  ⟨⟨hI.1.1, hI.1.2.1, hI.1.2.2.1, hI.1.2.2.2.1, hI.1.2.2.2.2.1, hl, hw, hI.1.2.2.2.2.2.2.2⟩, hI.2⟩
set_option maxHeartbeats 1000000 in
theorem yp_RCc.lw (hR : yp_RCc B mm A) (hI : yp_INV A) {m : Mem} {l : Nat} {tk : Nat → Nat × Nat} (hF : ∀ a j, yp_KC B a j → a ≠ B + 11 → a ≠ B + 12 → m a j = mm a j) (h2 : m (B + 11) 2 = yp_N l) (hL : ∀ k, k < l → m (B + 12) k = yp_ctok (tk k)) : yp_RCc B m (yp_lwA A l tk) := by
  obtain ⟨mp, hmp⟩ : ∃ mp : Mem, mp = fun a j => if a = B + 11 ∨ a = B + 12 then mm a j else m a j := ⟨_, rfl⟩
  have hR2 : yp_RCc B mp A := hR.fr hI (fun a j h => by
    rw [hmp]
    by_cases e : a = B + 11 ∨ a = B + 12
    · exact if_pos e
    · exact (if_neg e).trans (hF a j h (by omega) (by omega)))
  have g : ∀ a j, ¬ (a = B + 11 ∨ a = B + 12) → m a j = mp a j := fun a j h => by rw [hmp]; exact (if_neg h).symm
  obtain ⟨⟨q1, q2, q3, q4, q5, q6, q7⟩, r2, ⟨r3, r4⟩, ⟨r5, r6⟩, ⟨r7, r8, r9⟩, ⟨r10, r11, r12⟩, ⟨r13, r14, r15⟩, r16⟩ := hR2
  exact ⟨⟨(g _ _ (by omega)).trans q1, (g _ _ (by omega)).trans q2, (g _ _ (by omega)).trans q3, fun k hk => (g _ _ (by omega)).trans (q4 k hk), fun k hk => (g _ _ (by omega)).trans (q5 k hk), h2, hL⟩, r2.same (fun a j q1 q2 => g a j (by omega)), ⟨(g _ _ (by omega)).trans r3, fun i hi => (r4 i hi).same (fun a j q1 q2 => g a j (by omega))⟩, ⟨(g _ _ (by omega)).trans r5, fun i hi => ⟨(r6 i hi).1.same (fun a j q1 q2 => g a j (by omega)), (g _ _ (by omega)).trans (r6 i hi).2.1, fun j hj => ((r6 i hi).2.2 j hj).same (fun a q q1 q2 => g a q (by omega))⟩⟩, ⟨(g _ _ (by omega)).trans r7, fun i hi => (g _ _ (by omega)).trans (r8 i hi), fun i hi => (g _ _ (by omega)).trans (r9 i hi)⟩, ⟨(g _ _ (by omega)).trans r10, fun k hk => (g _ _ (by omega)).trans (r11 k hk), (g _ _ (by omega)).trans r12⟩, ⟨(g _ _ (by omega)).trans r13, (g _ _ (by omega)).trans r14, (g _ _ (by omega)).trans r15⟩, fun k hk => (g _ _ (by omega)).trans (r16 k hk)⟩
set_option maxHeartbeats 1000000 in
theorem yp_RMm.lw {m m' : Mem} (hR : yp_RMm B m A) {l : Nat} {tk : Nat → Nat × Nat} (h1 : 1 ≤ l) (hF : ∀ a j, yp_KM B a j → ¬ (a = B + 517 ∧ j = 26) → a ≠ B + 526 → a ≠ B + 527 → m' a j = m a j) (h2 : m' (B + 517) 26 = yp_N l) (hL : ∀ k, k < l → m' (B + 526) k = yp_N (tk k).1 ∧ m' (B + 527) k = yp_N (tk k).2) : yp_RMm B m' (yp_lwA A l tk) := by
  obtain ⟨mp, hmp⟩ : ∃ mp : Mem, mp = fun a j => if (a = B + 517 ∧ j = 26) ∨ a = B + 526 ∨ a = B + 527 then m a j else m' a j := ⟨_, rfl⟩
  have hR2 : yp_RMm B mp A := hR.fr (fun a j h => by
    rw [hmp]
    by_cases e : (a = B + 517 ∧ j = 26) ∨ a = B + 526 ∨ a = B + 527
    · exact if_pos e
    · exact (if_neg e).trans (hF a j h (by omega) (by omega) (by omega)))
  have g : ∀ a j, ¬ ((a = B + 517 ∧ j = 26) ∨ a = B + 526 ∨ a = B + 527) → m' a j = mp a j := fun a j h => by rw [hmp]; exact (if_neg h).symm
  obtain ⟨⟨q1, q2, q3, q4, q5, q6⟩, r2, ⟨r3, r4⟩, ⟨r5, r6⟩, ⟨r7, r8, r9⟩, ⟨r10, r11, r12⟩, ⟨r13, r14, r15⟩⟩ := hR2
  exact ⟨⟨(g _ _ (by omega)).trans q1, (g _ _ (by omega)).trans q2, (g _ _ (by omega)).trans q3, fun k hk => (g _ _ (by omega)).trans (q4 k hk), fun k hk => (g _ _ (by omega)).trans (q5 k hk), .inr ⟨h2, h1, fun k hk => (hL k hk).1, fun k hk => (hL k hk).2⟩⟩, r2.same (fun j => g _ j (by omega)), ⟨(g _ _ (by omega)).trans r3, fun i hi k hk => (g _ _ (by omega)).trans (r4 i hi k hk)⟩, ⟨(g _ _ (by omega)).trans r5, fun i hi => ⟨fun k hk => (g _ _ (by omega)).trans ((r6 i hi).1 k hk), (g _ _ (by omega)).trans (r6 i hi).2.1, fun j hj k hk => (g _ _ (by omega)).trans ((r6 i hi).2.2 j hj k hk)⟩⟩, ⟨(g _ _ (by omega)).trans r7, fun i hi => (g _ _ (by omega)).trans (r8 i hi), fun i hi => (g _ _ (by omega)).trans (r9 i hi)⟩, ⟨(g _ _ (by omega)).trans r10, fun k hk => (g _ _ (by omega)).trans (r11 k hk), (g _ _ (by omega)).trans r12⟩, ⟨(g _ _ (by omega)).trans r13, (g _ _ (by omega)).trans r14, (g _ _ (by omega)).trans r15⟩⟩
def yp_lz0 : yp_LwT := (0, 0, fun _ => (0, 0))
set_option maxHeartbeats 1000000 in
theorem yp_PQ_wf {n : Nat} {z : yp_LwT} (h : yp_PQ n yp_lz0 z 1) : yp_WFt z.2.2 z.2.1 ∧ 1 ≤ z.2.1 ∧ z.2.1 ≤ n := by
  obtain ⟨h1, h2, h3, h4, h5, h6, h7⟩ := h
  have h6 : yp_dep z.2.2 z.2.1 = 1 := h6
  have h4 : z.2.1 + 0 ≤ z.1 + 0 := h4
  refine ⟨⟨fun k hk => h7 k (Nat.zero_le k) hk, by omega⟩, ?_, by omega⟩
  by_cases e : z.2.1 = 0
  · rw [e] at h6
    have h8 : yp_dep z.2.2 0 = 0 := rfl
    omega
  · omega
set_option maxHeartbeats 1000000 in
theorem yp_c_lcopy {m : Mem} {l : Nat} {tk : Nat → Nat × Nat} (hl : l ≤ 150) (h1 : m (B + 14) 2 = yp_N l) (h2 : ∀ k, k < l → m (B + 15) k = yp_ctok (tk k)) : ∃ m', fX4_copyFrom (yp_SH B) (B + 11) (B + 14) m = some m' ∧ m' (B + 11) 2 = yp_N l ∧ (∀ k, k < l → m' (B + 12) k = yp_ctok (tk k)) ∧ ∀ a j, ¬ (a = B + 11 ∧ j = 2) → a ≠ B + 12 → m' a j = m a j := by
  have hS := yp_lspS B
  have r0 : rR (yp_SH B) 4 (B + 11) 0 = some (B + 12) ∧ aN (yp_SH B) (B + 12) = some (yp_N 151) ∧ (∀ mm k v, wI (yp_SH B) mm 4 (B + 11) k v = some (up2 mm (B + 11) k v)) := by
    refine ⟨?_, ?_, ?_⟩
    · rw [rR, yp_so11]; rfl
    · rw [aN, yp_sa12]; rfl
    · intro mm k v; rw [wI, yp_so11]; rfl
  have u1 := yp_aCN (yp_sa15 B) (yp_sa12 B) m 0 0 151 (by omega) (by omega) (by omega) (by omega)
  obtain ⟨ma, hma⟩ : ∃ ma, ma = cpy2 m (B + 15) (B + 12) 0 0 151 := ⟨_, rfl⟩
  rw [← hma] at u1
  have u2 : ma (B + 14) 2 = yp_N l := by rw [hma, yp_cpy_n _ (by omega)]; exact h1
  refine ⟨up2 ma (B + 11) 2 (yp_N l), ?_, yp_up2_s _ _ _ _, fun k hk => ?_, fun a j q1 q2 => ?_⟩
  · simp (disch := omega) only [fX4_copyFrom, hS, r0, u1, u2, Nat.reduceAdd, Nat.reduceMul, Nat.reduceSub, Nat.zero_add, Nat.add_zero, yp_LT, yp_nA, yp_nM, yp_ltF, yp_ltT, yp_leF, yp_leT, yp_eqF, eq_self, yp_eqM, yp_lt1N, yp_sbN, yp_sb2N, ↓reduceIte, ↓yp_iP11, ↓yp_iP12, ↓yp_m0P]
  · rw [yp_up2_n _ _ (by omega), hma, yp_cpy_v _ _ _ _ _ (by omega)]; exact h2 k hk
  · rw [yp_up2_n _ _ (by omega), hma, yp_cpy_n _ q2]
set_option maxHeartbeats 1000000 in
theorem yp_m_lcopy {m : Mem} {l : Nat} {tk : Nat → Nat × Nat} (hl : l ≤ 150) (hf : m (B + 517) 5 = -yp_N 1) (h1 : m (B + 517) 25 = yp_N l) (h2 : ∀ k, k < l → m (B + 524) k = yp_N (tk k).1 ∧ m (B + 525) k = yp_N (tk k).2) : ∃ m', fX12_law_j77 (yp_SH B) (B + 517) m = some (yp_N 1, m') ∧ m' (B + 517) 8 = -yp_N 1 ∧ m' (B + 517) 26 = yp_N l ∧ (∀ k, k < l → m' (B + 526) k = yp_N (tk k).1 ∧ m' (B + 527) k = yp_N (tk k).2) ∧ ∀ a j, ¬ (a = B + 517 ∧ (j = 8 ∨ j = 26)) → a ≠ B + 526 → a ≠ B + 527 → m' a j = m a j := by
  have hM := yp_mS B
  have hS := yp_lmS B
  have e1 := yp_m_res1 hf (yp_N 1)
  obtain ⟨ma, hma⟩ : ∃ ma, ma = up2 m (B + 517) 8 (-yp_N 1) := ⟨_, rfl⟩
  rw [← hma] at e1
  have Ga : ∀ a j, ¬ (a = B + 517 ∧ j = 8) → ma a j = m a j := fun a j q => by rw [hma, yp_up2_n _ _ (by omega)]
  have e2 : ma (B + 517) 5 = -yp_N 1 := (Ga _ _ (by omega)).trans hf
  have e3 : ma (B + 517) 25 = yp_N l := (Ga _ _ (by omega)).trans h1
  obtain ⟨mb, hmb⟩ : ∃ mb, mb = up2 ma (B + 517) 26 (yp_N l) := ⟨_, rfl⟩
  have Gb : ∀ a j, ¬ (a = B + 517 ∧ j = 26) → mb a j = ma a j := fun a j q => by rw [hmb, yp_up2_n _ _ (by omega)]
  have e4 : mb (B + 517) 25 = yp_N l := (Gb _ _ (by omega)).trans e3
  have u1 := yp_c_copies (x0 := B + 517) mb (yp_sa524 B) (yp_sa526 B) l (by omega) (by omega) (show B + 524 ≠ B + 526 by omega) (by omega)
  obtain ⟨mc, hmc⟩ : ∃ mc : Mem, mc = fun c j => if c = B + 526 ∧ j < l then mb (B + 524) j else mb c j := ⟨_, rfl⟩
  rw [← hmc] at u1
  have Gc : ∀ a j, a ≠ B + 526 → mc a j = mb a j := fun a j q => by rw [hmc]; exact if_neg (fun z => q z.1)
  have e5 : mc (B + 517) 25 = yp_N l := (Gc _ _ (by omega)).trans e4
  have u2 := yp_c_copies (x0 := B + 517) mc (yp_sa525 B) (yp_sa527 B) l (by omega) (by omega) (show B + 525 ≠ B + 527 by omega) (by omega)
  obtain ⟨md, hmd⟩ : ∃ md : Mem, md = fun c j => if c = B + 527 ∧ j < l then mc (B + 525) j else mc c j := ⟨_, rfl⟩
  rw [← hmd] at u2
  have Gd : ∀ a j, a ≠ B + 527 → md a j = mc a j := fun a j q => by rw [hmd]; exact if_neg (fun z => q z.1)
  refine ⟨md, ?_, ?_, ?_, fun k hk => ⟨?_, ?_⟩, fun a j q1 q2 q3 => ?_⟩
  · simp (disch := omega) only [fX12_law_j77, hM, hS, e1, e2, e3, ← hmb, e4, u1, e5, u2, Nat.reduceAdd, Nat.reduceMul, Nat.reduceSub, Nat.zero_add, Nat.add_zero, yp_LT, yp_nA, yp_nM, yp_ltF, yp_ltT, yp_leF, yp_leT, yp_eqF, eq_self, yp_eqM, yp_lt1N, yp_sbN, yp_sb2N, ↓reduceIte, ↓yp_iP11, ↓yp_iP12, ↓yp_m0P]
  · rw [Gd _ _ (by omega), Gc _ _ (by omega), Gb _ _ (by omega), hma, yp_up2_s]
  · rw [Gd _ _ (by omega), Gc _ _ (by omega), hmb, yp_up2_s]
  · have q : mc (B + 526) k = mb (B + 524) k := by rw [hmc]; exact if_pos ⟨rfl, hk⟩
    rw [Gd _ _ (by omega), q, Gb _ _ (by omega), Ga _ _ (by omega)]; exact (h2 k hk).1
  · have q : md (B + 527) k = mc (B + 525) k := by rw [hmd]; exact if_pos ⟨rfl, hk⟩
    rw [q, Gc _ _ (by omega), Gb _ _ (by omega), Ga _ _ (by omega)]; exact (h2 k hk).2
  · rw [Gd a j q3, Gc a j q2, Gb a j (by omega), Ga a j (by omega)]
set_option maxHeartbeats 1000000 in
theorem yp_m_lfault {m : Mem} {k x : Nat} (hx : x ≤ 600) (h5 : m (B + 517) 5 = yp_N x) (h6 : m (B + 517) 6 = yp_N k) : fX12_law_j77 (yp_SH B) (B + 517) m = some (yp_N k - yp_N 10, up2 m (B + 517) 8 (yp_N x)) := by
  have hM := yp_mS B
  have e1 := yp_m_res0 (by omega) h5 h6 (yp_N 1)
  have e2 : up2 m (B + 517) 8 (yp_N x) (B + 517) 5 = yp_N x := by rw [yp_up2_n _ _ (by omega)]; exact h5
  have e3 : (yp_N x = -yp_N 1) = False := yp_eqM (by omega)
  simp (disch := omega) only [fX12_law_j77, hM, e1, e2, e3, Nat.reduceAdd, Nat.reduceMul, Nat.reduceSub, Nat.zero_add, Nat.add_zero, yp_LT, yp_nA, yp_nM, yp_ltF, yp_ltT, yp_leF, yp_leT, yp_eqF, eq_self, yp_eqM, yp_lt1N, yp_sbN, yp_sb2N, ↓reduceIte, ↓yp_iP11, ↓yp_iP12, ↓yp_m0P]
set_option maxHeartbeats 1000000 in
theorem yp_p_law (hR : yp_RCc B mm A) (hI : yp_INV A) (x : Int32) : yp_PM B (fX11_law (yp_SH B) B x mm) (fun m => fX12_law (yp_SH B) (B + 517) x m) hcI mm A := by
  have hA := yp_clsS B
  have hT := yp_tapS B
  have hL := yp_lspS B
  have hM := yp_mS B
  have hL2 : isO (yp_SH B) 4 (B + 11) = some () := by rw [isO, yp_so11]; rfl
  rcases yp_txtR hR hI x 150 (by omega) with ⟨k, k1, k2, rfl, s1⟩ | ⟨hb, s1⟩
  rotate_left
  · refine yp_PM_e1 hR hI (by simp (disch := omega) only [fX11_law, hA, s1, ↓yp_smLN, ↓yp_smRN, Nat.reduceAdd, Nat.reduceMul, Nat.reduceSub, Nat.zero_add, Nat.add_zero, yp_LT, yp_nA, yp_nM, yp_ltF, yp_ltT, yp_leF, yp_leT, yp_eqF, eq_self, yp_eqM, yp_lt1N, yp_sbN, yp_sb2N, ↓reduceIte, ↓yp_iP11, ↓yp_iP12, ↓yp_m0P]) (fun m hm => ?_) rfl yp_n1
    have e := (yp_m0R hm).2.2.2.2.2.1.1
    have ma : fX12_may (yp_SH B) (B + 517) 0 1 1 (yp_m0 B m) = some (yp_N 0, yp_XE B m 1 (yp_N 1)) := yp_may11 B m
    rcases hb with h | h | h
    · simp (disch := omega) only [fX12_law, fX12_law_j29, fX12_law_j30, hM, yp_m0e, h, ↓yp_bdP ma, yp_may11, Nat.reduceAdd, Nat.reduceMul, Nat.reduceSub, Nat.zero_add, Nat.add_zero, yp_LT, yp_nA, yp_nM, yp_ltF, yp_ltT, yp_leF, yp_leT, yp_eqF, eq_self, yp_eqM, yp_lt1N, yp_sbN, yp_sb2N, ↓reduceIte, ↓yp_iP11, ↓yp_iP12, ↓yp_m0P]
    · simp (disch := omega) only [fX12_law, fX12_law_j29, fX12_law_j30, hM, yp_m0e, e, h, ↓yp_bdP ma, yp_may11, Nat.reduceAdd, Nat.reduceMul, Nat.reduceSub, Nat.zero_add, Nat.add_zero, yp_LT, yp_nA, yp_nM, yp_ltF, yp_ltT, yp_leF, yp_leT, yp_eqF, eq_self, yp_eqM, yp_lt1N, yp_sbN, yp_sb2N, ↓reduceIte, ↓yp_iP11, ↓yp_iP12, ↓yp_m0P]
    · simp (disch := omega) only [fX12_law, fX12_law_j29, fX12_law_j30, hM, yp_m0e, e, h, ↓yp_bdP ma, yp_may11, Nat.reduceAdd, Nat.reduceMul, Nat.reduceSub, Nat.zero_add, Nat.add_zero, yp_LT, yp_nA, yp_nM, yp_ltF, yp_ltT, yp_leF, yp_leT, yp_eqF, eq_self, yp_eqM, yp_lt1N, yp_sbN, yp_sb2N, ↓reduceIte, ↓yp_iP11, ↓yp_iP12, ↓yp_m0P]
  have h6 := hI.2.2.2.2.2.1
  obtain ⟨o1, o2, o3, o4, o5⟩ := yp_opn_v B mm k
  have c0 := yp_opn_T hR hI k1
  obtain ⟨m1, hm1⟩ : ∃ m1, m1 = up2 (yp_opn B mm k) (B + 14) 2 (yp_N 0) := ⟨_, rfl⟩
  have G1 : ∀ a j, ¬ (a = B + 14 ∧ j = 2) → m1 a j = yp_opn B mm k a j := fun a j h => by rw [hm1, yp_up2_n _ _ (by omega)]
  have l1 : yp_LC B m1 (yp_tb A) k yp_lz0 := ⟨c0.fr (fun a j q => G1 a j (by omega)), by unfold yp_FL; rw [G1 _ _ (by omega), G1 _ _ (by omega), o4, o5], by rw [hm1, yp_up2_s]; rfl, Nat.le_refl 0, fun i hi => absurd hi (Nat.not_lt_zero i)⟩
  obtain ⟨r, a1, a2, a3, a4, a5⟩ := (yp_K_law (B := B) (t := yp_tb A) (n := k) k2 6 0 DP DP (by omega) (by show 6 < 10; omega) (by show 6 + 1 < 10; omega)).1 yp_lz0 (Nat.zero_le k) (Nat.le_refl 0)
  obtain ⟨m2, yp_b1, b2, b3, b4⟩ := a4 m1 l1
  have yp_b1 : fX4_readSum (yp_SH B) DP (B + 14) (B + 1) (yp_N 0) m1 = some (if r.1.1 = 0 then yp_N 1 else yp_N 0, m2) := yp_b1
  have F2 : ∀ a j, yp_KC B a j ∨ B + 517 ≤ a → a ≠ B + 1 → m2 a j = mm a j := fun a j h1 h2 => by
    rw [b2 a j (by unfold yp_KC at h1; unfold yp_TLc; omega), G1 a j (by unfold yp_KC at h1; omega), yp_opn_n (by omega)]
  have t2 : m2 (B + 1) 1 = yp_N 0 := by rw [b2 _ _ (by unfold yp_TLc; omega), G1 _ _ (by omega), o1]
  have goM : ∀ m, yp_RMm B m A → ∃ mb mc, mb = up2 (yp_beg B (yp_m0 B m) k) (B + 517) 25 (yp_N 0) ∧ fX12_readSum (yp_SH B) DP (B + 517) mb = some mc ∧ yp_RS B mc r.1 ∧ (r.1.1 = 0 → yp_LM B mc (yp_tb A) k r.2 0) ∧ (∀ a j, yp_KM B a j ∨ a < B + 517 ∨ B + 542 ≤ a → ¬ (a = B + 517 ∧ (j = 2 ∨ j = 8)) → mc a j = m a j) ∧ mc (B + 517) 0 = yp_N 0 ∧ mc (B + 517) 2 = yp_N 0 := fun m hm => by
    have hm0 := yp_m0R hm
    obtain ⟨p1, p2, p3, p4, p5, p6⟩ := yp_beg_v B (yp_m0 B m) k
    obtain ⟨mb, hmb⟩ : ∃ mb, mb = up2 (yp_beg B (yp_m0 B m) k) (B + 517) 25 (yp_N 0) := ⟨_, rfl⟩
    have G : ∀ a j, ¬ (a = B + 517 ∧ j = 25) → mb a j = yp_beg B (yp_m0 B m) k a j := fun a j q => by rw [hmb, yp_up2_n _ _ (by omega)]
    have l2 : yp_LM B mb (yp_tb A) k yp_lz0 0 := ⟨(yp_beg_T hm0 hI k1).fr (fun a j q => G a j (by omega)), (G _ _ (by omega)).trans p4, by rw [hmb, yp_up2_s]; rfl, Nat.le_refl 0, fun i hi => absurd hi (Nat.not_lt_zero i), (G _ _ (by omega)).trans p5⟩
    obtain ⟨mc, q1, q2, q3, q4⟩ := a5 mb l2
    refine ⟨mb, mc, hmb, q1, q3, q4, fun a j h1 h2 => ?_, ?_, ?_⟩
    · rw [q2 a j (by unfold yp_KM at h1; unfold yp_TLm; omega), G a j (by unfold yp_KM at h1; omega), yp_beg_n (by unfold yp_KM at h1; omega), yp_m0_KM h1]
    · rw [q2 _ _ (by unfold yp_TLm; omega), G _ _ (by omega), yp_beg_n (by omega), yp_m0t]
    · rw [q2 _ _ (by unfold yp_TLm; omega), G _ _ (by omega), p1]
  have eM := fun m (hm : yp_RMm B m A) => (yp_m0R hm).2.2.2.2.2.1.1
  have bgE := fun m => yp_m_begins B (yp_m0 B m) k
  by_cases y0 : r.1.1 = 0
  rotate_left
  · rw [if_neg y0] at yp_b1
    rw [yp_FLk_1 y0] at b3
    have u1 : m2 (B + 1) 4 = yp_N r.1.1 := congrArg Prod.fst b3
    have u2 : m2 (B + 1) 5 = yp_N r.1.2 := congrArg Prod.snd b3
    refine yp_PM_f hR hI (k := r.1.1) (x := r.1.2) (m1 := m2) ?_ F2 t2 u2 (fun m hm => ?_)
    · simp (disch := omega) only [fX11_law, fX4_read_j38, fX4_read_j37, fX4_read_j33, fX4_read, hA, hT, hL, s1, ↓yp_smLN, ↓yp_smRN, ← hm1, yp_b1, yp_ck0, u1, Nat.reduceAdd, Nat.reduceMul, Nat.reduceSub, Nat.zero_add, Nat.add_zero, yp_LT, yp_nA, yp_nM, yp_ltF, yp_ltT, yp_leF, yp_leT, yp_eqF, eq_self, yp_eqM, yp_lt1N, yp_sbN, yp_sb2N, ↓reduceIte, ↓yp_iP11, ↓yp_iP12, ↓yp_m0P]
    · obtain ⟨mb, mc, hmb, q1, q3, q4, q5, q6, q7⟩ := goM m hm
      rcases q3.2 with q | ⟨_, q8, q9⟩
      · exact absurd q.1 y0
      · have e1 := yp_m_lfault q3.1.2 q8 q9
        have f0 := yp_m_fine0 (q3.bad y0)
        refine ⟨up2 mc (B + 517) 8 (yp_N r.1.2), ?_, fun a j h1 h2 => ?_, ?_, ?_, yp_up2_s _ _ _ _⟩
        · simp (disch := omega) only [fX12_law, fX12_law_j30, fX12_law_j29, hM, yp_m0e, eM m hm, yp_mayG, bgE, ← hmb, q1, f0, e1, Nat.reduceAdd, Nat.reduceMul, Nat.reduceSub, Nat.zero_add, Nat.add_zero, yp_LT, yp_nA, yp_nM, yp_ltF, yp_ltT, yp_leF, yp_leT, yp_eqF, eq_self, yp_eqM, yp_lt1N, yp_sbN, yp_sb2N, ↓reduceIte, ↓yp_iP11, ↓yp_iP12, ↓yp_m0P]
        · rw [yp_up2_n _ _ (by omega)]; exact q5 a j h1 h2
        · rw [yp_up2_n _ _ (by omega)]; exact q6
        · rw [yp_up2_n _ _ (by omega)]; exact q7
  rw [if_pos y0] at yp_b1
  have lc := b4 y0
  have pq := a3 y0
  obtain ⟨w1, w2, w3⟩ := yp_PQ_wf pq
  have hle := pq.2.1
  have hs2 := yp_sk_le (t := yp_tb A) hle
  have e1 := yp_c_ended lc.1
  by_cases z0 : yp_sk (yp_tb A) k r.2.1 < k
  · rw [if_pos z0] at e1
    have hq := lc.1.at hs2
    have e2 := yp_c_next hq
    rw [yp_sk_fix, yp_cAt2] at e2
    have e3 := yp_c_fail B (yp_cAt B m2 (yp_sk (yp_tb A) k r.2.1)) 1 (yp_sk (yp_tb A) k r.2.1)
    have e4 := yp_FL3 (B := B) (m := yp_cAt B m2 (yp_sk (yp_tb A) k r.2.1)) (x := yp_sk (yp_tb A) k r.2.1) (by rw [yp_FL_at]; exact lc.2.1) 1 (by decide)
    obtain ⟨m3, hm3⟩ : ∃ m3, m3 = yp_cF B (yp_cAt B m2 (yp_sk (yp_tb A) k r.2.1)) 1 (yp_sk (yp_tb A) k r.2.1) := ⟨_, rfl⟩
    rw [← hm3] at e3 e4
    have e4 : yp_FL B m3 = (yp_N 1, yp_N (yp_sk (yp_tb A) k r.2.1)) := e4
    have u1 : m3 (B + 1) 4 = yp_N 1 := congrArg Prod.fst e4
    have u2 : m3 (B + 1) 5 = yp_N (yp_sk (yp_tb A) k r.2.1) := congrArg Prod.snd e4
    have G3 : ∀ a j, ¬ (a = B + 1 ∧ (j = 3 ∨ j = 4 ∨ j = 5)) → m3 a j = m2 a j := fun a j q => by rw [hm3, yp_cF_n _ _ (by omega), yp_cAt_n _ (by omega)]
    refine yp_PM_f hR hI (k := 1) (x := yp_sk (yp_tb A) k r.2.1) (m1 := m3) ?_ (fun a j h1 h2 => (G3 a j (by omega)).trans (F2 a j h1 h2)) ((G3 _ _ (by omega)).trans t2) u2 (fun m hm => ?_)
    · simp (disch := omega) only [fX11_law, fX4_read_j38, fX4_read_j37, fX4_read_j33, fX4_read, hA, hT, hL, s1, ↓yp_smLN, ↓yp_smRN, ← hm1, yp_b1, e1, e2, e3, yp_ck0, u1, Nat.reduceAdd, Nat.reduceMul, Nat.reduceSub, Nat.zero_add, Nat.add_zero, yp_LT, yp_nA, yp_nM, yp_ltF, yp_ltT, yp_leF, yp_leT, yp_eqF, eq_self, yp_eqM, yp_lt1N, yp_sbN, yp_sb2N, ↓reduceIte, ↓yp_iP11, ↓yp_iP12, ↓yp_m0P]
    · obtain ⟨mb, mc, hmb, q1, q3, q4, q5, q6, q7⟩ := goM m hm
      have lm := q4 y0
      have f0 := yp_m_fine1 lm.2.1
      have g1 := yp_m_more lm.1
      rw [if_pos z0] at g1
      have hq2 := lm.1.at hs2
      have c3 := hq2.1.2.1
      have g2 := yp_m_wrong1 (B := B) (m := yp_rAt B mc (yp_sk (yp_tb A) k r.2.1)) ((yp_rAt_n _ (by omega)).trans lm.2.1) 1 (yp_sk (yp_tb A) k r.2.1)
      have g3 := yp_rF_5 B (yp_rAt B mc (yp_sk (yp_tb A) k r.2.1)) 1 (yp_sk (yp_tb A) k r.2.1)
      have g4 := yp_m_lfault (show yp_sk (yp_tb A) k r.2.1 ≤ 600 by omega) g3.1 g3.2
      refine ⟨up2 (yp_rF B (yp_rAt B mc (yp_sk (yp_tb A) k r.2.1)) 1 (yp_sk (yp_tb A) k r.2.1)) (B + 517) 8 (yp_N (yp_sk (yp_tb A) k r.2.1)), ?_, fun a j h1 h2 => ?_, ?_, ?_, yp_up2_s _ _ _ _⟩
      · simp (disch := omega) only [fX12_law, fX12_law_j30, fX12_law_j29, hM, yp_m0e, eM m hm, yp_mayG, bgE, ← hmb, q1, f0, g1, c3, g2, g4, Nat.reduceAdd, Nat.reduceMul, Nat.reduceSub, Nat.zero_add, Nat.add_zero, yp_LT, yp_nA, yp_nM, yp_ltF, yp_ltT, yp_leF, yp_leT, yp_eqF, eq_self, yp_eqM, yp_lt1N, yp_sbN, yp_sb2N, ↓reduceIte, ↓yp_iP11, ↓yp_iP12, ↓yp_m0P]
      · rw [yp_up2_n _ _ (by omega), yp_rF_n _ _ (by unfold yp_KM at h1; omega), yp_rAt_n _ (by unfold yp_KM at h1; omega)]; exact q5 a j h1 h2
      · rw [yp_up2_n _ _ (by omega), yp_rF_n _ _ (by omega), yp_rAt_n _ (by omega)]; exact q6
      · rw [yp_up2_n _ _ (by omega), yp_rF_n _ _ (by omega), yp_rAt_n _ (by omega)]; exact q7
  · rw [if_neg z0] at e1
    have lc2 := lc.at (yp_sk_ge (yp_tb A) k r.2.1) hs2
    obtain ⟨m4, d1, d2, d3, d4⟩ := yp_c_lcopy (B := B) (m := yp_cAt B m2 (yp_sk (yp_tb A) k r.2.1)) (l := r.2.2.1) (tk := r.2.2.2) (by omega) lc2.2.2.1 lc2.2.2.2.2
    have u2 : m2 (B + 1) 5 = -yp_N 1 := congrArg Prod.snd lc.2.1
    have G4 : ∀ a j, ¬ (a = B + 11 ∧ j = 2) → a ≠ B + 12 → ¬ (a = B + 1 ∧ j = 3) → m4 a j = m2 a j := fun a j q1 q2 q3 => by rw [d4 a j q1 q2, yp_cAt_n _ (by omega)]
    have x1 : yp_RCc B (fun a j => if a = B + 11 ∨ a = B + 12 then mm a j else m4 a j) (yp_txA A (-yp_N 1)) := by
      refine hR.tx hI (fun a j h1 h2 => ?_) ?_ ?_
      · by_cases e : a = B + 11 ∨ a = B + 12
        · exact if_pos e
        · exact (if_neg e).trans ((G4 a j (by omega) (by omega) (by omega)).trans (F2 a j (.inl h1) h2))
      · exact (if_neg (by omega)).trans ((G4 _ _ (by omega) (by omega) (by omega)).trans t2)
      · exact (if_neg (by omega)).trans ((G4 _ _ (by omega) (by omega) (by omega)).trans u2)
    have x2 := x1.lw (m := m4) (hI.tx (-yp_N 1)) (l := r.2.2.1) (tk := r.2.2.2) (fun a j h1 h2 h3 => (if_neg (by omega)).symm) d2 d3
    refine yp_PM_x (A := A) ((hI.tx (-yp_N 1)).lw (by omega) w1) (v := yp_N 1) ?_ x2 (fun a j ha => (G4 a j (by omega) (by omega) (by omega)).trans (F2 a j (.inr ha) (by omega))) (fun m hm => ?_)
    · simp (disch := omega) only [fX11_law, fX4_read_j38, fX4_read_j37, fX4_read_j33, fX4_read, hA, hT, hL, hL2, s1, ↓yp_smLN, ↓yp_smRN, ← hm1, yp_b1, e1, yp_ck1, d1, Nat.reduceAdd, Nat.reduceMul, Nat.reduceSub, Nat.zero_add, Nat.add_zero, yp_LT, yp_nA, yp_nM, yp_ltF, yp_ltT, yp_leF, yp_leT, yp_eqF, eq_self, yp_eqM, yp_lt1N, yp_sbN, yp_sb2N, ↓reduceIte, ↓yp_iP11, ↓yp_iP12, ↓yp_m0P]
    · obtain ⟨mb, mc, hmb, q1, q3, q4, q5, q6, q7⟩ := goM m hm
      have lm := q4 y0
      have f0 := yp_m_fine1 lm.2.1
      have g1 := yp_m_more lm.1
      rw [if_neg z0] at g1
      have lm2 := lm.at (yp_sk_ge (yp_tb A) k r.2.1) hs2
      obtain ⟨m5, i1, i2, i3, i4, i5⟩ := yp_m_lcopy (B := B) (l := r.2.2.1) (tk := r.2.2.2) (by omega) lm2.2.1 lm2.2.2.1 lm2.2.2.2.2.1
      have G5 : ∀ a j, ¬ (a = B + 517 ∧ (j = 4 ∨ j = 8 ∨ j = 26)) → a ≠ B + 526 → a ≠ B + 527 → m5 a j = mc a j := fun a j h1 h2 h3 => by rw [i5 a j (by omega) h2 h3, yp_rAt_n _ (by omega)]
      have z1 : yp_RMm B (fun a j => if (a = B + 517 ∧ j = 26) ∨ a = B + 526 ∨ a = B + 527 then m a j else m5 a j) (yp_txA A (-yp_N 1)) := by
        refine hm.tx (fun a j h1 h2 => ?_) ?_ ?_
        · by_cases e : (a = B + 517 ∧ j = 26) ∨ a = B + 526 ∨ a = B + 527
          · exact if_pos e
          · exact (if_neg e).trans ((G5 a j (by unfold yp_KM at h1; omega) (by omega) (by omega)).trans (q5 a j (.inl h1) h2))
        · exact (if_neg (by omega)).trans ((G5 _ _ (by omega) (by omega) (by omega)).trans q7)
        · exact (if_neg (by omega)).trans i2
      refine ⟨m5, ?_, z1.lw (l := r.2.2.1) (tk := r.2.2.2) w2 (fun a j h1 h2 h3 h4 => (if_neg (by omega)).symm) i3 i4, (G5 _ _ (by omega) (by omega) (by omega)).trans q6, fun a j ha => (G5 a j (by omega) (by omega) (by omega)).trans (q5 a j (.inr ha) (by omega))⟩
      simp (disch := omega) only [fX12_law, fX12_law_j30, fX12_law_j29, hM, yp_m0e, eM m hm, yp_mayG, bgE, ← hmb, q1, f0, g1, i1, Nat.reduceAdd, Nat.reduceMul, Nat.reduceSub, Nat.zero_add, Nat.add_zero, yp_LT, yp_nA, yp_nM, yp_ltF, yp_ltT, yp_leF, yp_leT, yp_eqF, eq_self, yp_eqM, yp_lt1N, yp_sbN, yp_sb2N, ↓reduceIte, ↓yp_iP11, ↓yp_iP12, ↓yp_m0P]
end PLAW

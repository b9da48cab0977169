set_option maxHeartbeats 1000000 in
theorem yp_lpSim {S X T Y : Type} {step : S → Option (S ⊕ X)} {ps : T → Option (T ⊕ Y)} (R : S → T → Prop) (Q : X → Y → Prop) (μ : T → Nat) (h : ∀ s z, R s z → (∃ s' z', step s = some (.inl s') ∧ ps z = some (.inl z') ∧ R s' z' ∧ μ z' < μ z) ∨ (∃ x y, step s = some (.inr x) ∧ ps z = some (.inr y) ∧ Q x y)) : ∀ k s z, μ z < k → R s z → ∃ x y, loopN step k s = some x ∧ loopN ps k z = some y ∧ Q x y := by
  intro k
  induction k with
  | zero => intro s z h1; omega
  | succ k ih =>
    intro s z h1 h2
    rcases h s z h2 with ⟨s', z', e1, e2, e3, e4⟩ | ⟨x, y, e1, e2, e3⟩
    · obtain ⟨x, y, g1, g2, g3⟩ := ih s' z' (by omega) e3
      refine ⟨x, y, ?_, ?_, g3⟩
      · unfold loopN; rw [e1]; exact g1
      · unfold loopN; rw [e2]; exact g2
    · refine ⟨x, y, ?_, ?_, e3⟩
      · unfold loopN; rw [e1]; rfl
      · unfold loopN; rw [e2]; rfl
set_option maxHeartbeats 1000000 in
theorem yp_nE_sk {t : Nat → Nat} {n p : Nat} : yp_nE t n (yp_sk t n p) = yp_nE t n p := by unfold yp_nE; rw [yp_sk_fix]
set_option maxHeartbeats 1000000 in
theorem yp_nV_sk {t : Nat → Nat} {n p : Nat} : yp_nV t n (yp_sk t n p) = yp_nV t n p := by unfold yp_nV; rw [yp_sk_fix, yp_nE_sk]
set_option maxHeartbeats 1000000 in
theorem yp_nK_sk {t : Nat → Nat} {n lo hi p : Nat} : yp_nK t n lo hi (yp_sk t n p) = yp_nK t n lo hi p := by unfold yp_nK; rw [yp_sk_fix, yp_nE_sk, yp_nV_sk]
set_option maxHeartbeats 1000000 in
theorem yp_wE_sk {t : Nat → Nat} {n p : Nat} : yp_wE t n (yp_sk t n p) = yp_wE t n p := by unfold yp_wE; rw [yp_sk_fix]
set_option maxHeartbeats 1000000 in
theorem yp_wC_sk {t : Nat → Nat} {n p : Nat} : yp_wC t n (yp_sk t n p) = yp_wC t n p := by unfold yp_wC; rw [yp_sk_fix, yp_wE_sk]
set_option maxHeartbeats 1000000 in
theorem yp_nK_le (t : Nat → Nat) (n lo hi p : Nat) : yp_nK t n lo hi p ≤ 2 := by
  unfold yp_nK
  split
  · omega
  · split <;> omega
set_option maxHeartbeats 1000000 in
theorem yp_nK_0 {t : Nat → Nat} {n lo hi p : Nat} (h : yp_nK t n lo hi p = 0) : yp_sk t n p < yp_nE t n p ∧ lo ≤ yp_nV t n p ∧ yp_nV t n p < hi := by
  unfold yp_nK at h
  have := yp_nE_ge t n p
  split at h
  · omega
  · split at h
    · rename_i h1 h2
      exact ⟨by omega, h2.1, h2.2⟩
    · omega
section FAULTS
variable {B : Nat} {m : Mem} {t : Nat → Nat} {n p : Nat}
set_option maxHeartbeats 1000000 in
theorem yp_cAt_4 (q : Nat) : yp_cAt B m q (B + 1) 4 = m (B + 1) 4 ∧ yp_cAt B m q (B + 1) 5 = m (B + 1) 5 := ⟨yp_cAt_n q (by omega), yp_cAt_n q (by omega)⟩
set_option maxHeartbeats 1000000 in
theorem yp_c_numF (h : yp_CT B m t n p) (hf : ¬ m (B + 1) 4 = yp_N 0) (lo hi : Nat) (x2 : Int32) (hx : x2.toInt = (hi : Int) - 1) (hlo : lo ≤ 1000) (hhi : hi ≤ 1000) : ∃ v, fX8_number (yp_SH B) (B + 1) (yp_N lo) x2 m = some (v, yp_cAt B m (yp_nE t n p)) := by
  rw [yp_c_number h lo hi x2 hx hlo hhi]
  by_cases e : yp_nK t n lo hi p = 0
  · rw [if_pos e, if_pos e]; exact ⟨_, rfl⟩
  · rw [if_neg e, if_neg e, yp_cF_0 (by rw [(yp_cAt_4 (B := B) (m := m) _).1]; exact hf)]; exact ⟨_, rfl⟩
set_option maxHeartbeats 1000000 in
theorem yp_c_wantF (h : yp_CT B m t n p) (hf : ¬ m (B + 1) 4 = yp_N 0) (c : Nat) (hc : c < 256) : ∃ v q, q ≤ n ∧ fX8_wants (yp_SH B) (B + 1) (yp_N c) m = some (v, yp_cAt B m q) := by
  have hl := yp_sk_le (t := t) h.2.2.1
  by_cases e : yp_sk t n p < n ∧ t (yp_sk t n p) = c
  · exact ⟨_, yp_sk t n p + 1, by omega, yp_c_wants1 h c hc e⟩
  · refine ⟨yp_N 0, yp_sk t n p, hl, ?_⟩
    rw [yp_c_wants0 h c hc e, yp_cF_0 (by rw [(yp_cAt_4 (B := B) (m := m) _).1]; exact hf)]
end FAULTS
section START
variable {B : Nat} {mm : Mem} {A : yp_St}
def yp_tb (A : yp_St) (i : Nat) : Nat := if i < yp_sF A then (yp_sT A i).toInt.toNat else 0
set_option maxHeartbeats 1000000 in
theorem yp_tb_lt (hI : yp_INV A) (i : Nat) : yp_tb A i < 256 := by
  unfold yp_tb
  split
  · rename_i h
    have := hI.2.2.2.2.2.2 i h
    omega
  · omega
set_option maxHeartbeats 1000000 in
theorem yp_tb_e (hI : yp_INV A) {i : Nat} (h : i < yp_sF A) : yp_sT A i = yp_N (yp_tb A i) := by
  unfold yp_tb
  rw [if_pos h]
  exact yp_toN (hI.2.2.2.2.2.2 i h).1
def yp_txA (A : yp_St) (x : Int32) : yp_St := (A.1, A.2.1, A.2.2.1, A.2.2.2.1, A.2.2.2.2.1, (0, yp_sT A), x, A.2.2.2.2.2.2.2.1, A.2.2.2.2.2.2.2.2.1, A.2.2.2.2.2.2.2.2.2)
set_option maxHeartbeats 1000000 in
theorem yp_INV.tx (hI : yp_INV A) (x : Int32) : yp_INV (yp_txA A x) := ⟨hI.1, hI.2.1, hI.2.2.1, hI.2.2.2.1, hI.2.2.2.2.1, Nat.zero_le 600, fun k hk => absurd hk (Nat.not_lt_zero k)⟩
set_option maxHeartbeats 1000000 in
theorem yp_RCc.tx (hR : yp_RCc B mm A) (hI : yp_INV A) {m : Mem} {x : Int32} (hF : ∀ a j, yp_KC B a j → a ≠ B + 1 → m a j = mm a j) (h1 : m (B + 1) 1 = yp_N 0) (h5 : m (B + 1) 5 = x) : yp_RCc B m (yp_txA A x) := by
  have hR2 : yp_RCc B (up2 (up2 m (B + 1) 1 (mm (B + 1) 1)) (B + 1) 5 (mm (B + 1) 5)) A := hR.fr hI (fun a j h => by
    by_cases e : a = B + 1
    · have : j = 1 ∨ j = 5 := by unfold yp_KC at h; omega
      rcases this with rfl | rfl
      · rw [e, yp_up2_n _ _ (by omega), yp_up2_s]
      · rw [e, yp_up2_s]
    · rw [yp_up2_n _ _ (by omega), yp_up2_n _ _ (by omega)]
      exact hF a j h e)
  obtain ⟨r1, r2, ⟨r3, r4⟩, ⟨r5, r6⟩, ⟨r7, r8, r9⟩, ⟨r10, r11, r12⟩, ⟨r13, r14, r15⟩, r16⟩ := hR2
  have g : ∀ a j, a ≠ B + 1 → m a j = up2 (up2 m (B + 1) 1 (mm (B + 1) 1)) (B + 1) 5 (mm (B + 1) 5) a j := fun a j h => by rw [yp_up2_n _ _ (by omega), yp_up2_n _ _ (by omega)]
  have iW := hI.2.2.1.1
  have iI := hI.2.2.2.1.1
  refine ⟨r1.fr (fun a j h => g a j (by omega)), r2.same (fun a j q1 q2 => g a j (by omega)), ⟨(g _ _ (by omega)).trans r3, fun i hi => (r4 i hi).same (fun a j q1 q2 => g a j (by omega))⟩, ⟨(g _ _ (by omega)).trans r5, fun i hi => ⟨(r6 i hi).1.same (fun a j q1 q2 => g a j (by omega)), (g _ _ (by omega)).trans (r6 i hi).2.1, fun j hj => ((r6 i hi).2.2 j hj).same (fun a q q1 q2 => g a q (by omega))⟩⟩, ⟨(g _ _ (by omega)).trans r7, fun i hi => (g _ _ (by omega)).trans (r8 i hi), fun i hi => (g _ _ (by omega)).trans (r9 i hi)⟩, ⟨h1, fun k hk => absurd hk (Nat.not_lt_zero k), h5⟩, ⟨(g _ _ (by omega)).trans r13, (g _ _ (by omega)).trans r14, (g _ _ (by omega)).trans r15⟩, fun k hk => (g _ _ (by omega)).trans (r16 k hk)⟩
set_option maxHeartbeats 1000000 in
theorem yp_RMm.tx {m m' : Mem} {x : Int32} (hR : yp_RMm B m A) (hF : ∀ a j, yp_KM B a j → ¬ (a = B + 517 ∧ (j = 2 ∨ j = 8)) → m' a j = m a j) (h1 : m' (B + 517) 2 = yp_N 0) (h5 : m' (B + 517) 8 = x) : yp_RMm B m' (yp_txA A x) := by
  have hR2 : yp_RMm B (up2 (up2 m' (B + 517) 2 (m (B + 517) 2)) (B + 517) 8 (m (B + 517) 8)) A := hR.fr (fun a j h => by
    by_cases e : a = B + 517 ∧ (j = 2 ∨ j = 8)
    · obtain ⟨e1, rfl | rfl⟩ := e
      · rw [e1, yp_up2_n _ _ (by omega), yp_up2_s]
      · rw [e1, yp_up2_s]
    · rw [yp_up2_n _ _ (by omega), yp_up2_n _ _ (by omega)]
      exact hF a j h e)
  obtain ⟨r1, r2, ⟨r3, r4⟩, ⟨r5, r6⟩, ⟨r7, r8, r9⟩, ⟨r10, r11, r12⟩, ⟨r13, r14, r15⟩⟩ := hR2
  have g : ∀ a j, ¬ (a = B + 517 ∧ (j = 2 ∨ j = 8)) → m' a j = up2 (up2 m' (B + 517) 2 (m (B + 517) 2)) (B + 517) 8 (m (B + 517) 8) a j := fun a j h => by rw [yp_up2_n _ _ (by omega), yp_up2_n _ _ (by omega)]
  refine ⟨r1.fr (fun a j h => g a j (by omega)), r2.same (fun j => g _ j (by omega)), ⟨(g _ _ (by omega)).trans r3, fun i hi k hk => (g _ _ (by omega)).trans (r4 i hi k hk)⟩, ⟨(g _ _ (by omega)).trans r5, fun i hi => ⟨fun k hk => (g _ _ (by omega)).trans ((r6 i hi).1 k hk), (g _ _ (by omega)).trans (r6 i hi).2.1, fun j hj k hk => (g _ _ (by omega)).trans ((r6 i hi).2.2 j hj k hk)⟩⟩, ⟨(g _ _ (by omega)).trans r7, fun i hi => (g _ _ (by omega)).trans (r8 i hi), fun i hi => (g _ _ (by omega)).trans (r9 i hi)⟩, ⟨h1, fun k hk => absurd hk (Nat.not_lt_zero k), h5⟩, ⟨(g _ _ (by omega)).trans r13, (g _ _ (by omega)).trans r14, (g _ _ (by omega)).trans r15⟩⟩
def yp_opn (B : Nat) (mm : Mem) (k : Nat) : Mem := up2 (up2 (up2 (up2 (up2 mm (B + 1) 2 (yp_N k)) (B + 1) 3 (yp_N 0)) (B + 1) 1 (yp_N 0)) (B + 1) 4 (yp_N 0)) (B + 1) 5 (-yp_N 1)
set_option maxHeartbeats 1000000 in
theorem yp_opn_n {k a j : Nat} (h : ¬ (a = B + 1 ∧ 1 ≤ j ∧ j ≤ 5)) : yp_opn B mm k a j = mm a j := by
  unfold yp_opn
  rw [yp_up2_n _ _ (by omega), yp_up2_n _ _ (by omega), yp_up2_n _ _ (by omega), yp_up2_n _ _ (by omega), yp_up2_n _ _ (by omega)]
set_option maxHeartbeats 1000000 in
theorem yp_opn_v (B : Nat) (mm : Mem) (k : Nat) : yp_opn B mm k (B + 1) 1 = yp_N 0 ∧ yp_opn B mm k (B + 1) 2 = yp_N k ∧ yp_opn B mm k (B + 1) 3 = yp_N 0 ∧ yp_opn B mm k (B + 1) 4 = yp_N 0 ∧ yp_opn B mm k (B + 1) 5 = -yp_N 1 := by
  unfold yp_opn
  refine ⟨?_, ?_, ?_, ?_, yp_up2_s _ _ _ _⟩
  · rw [yp_up2_n _ _ (by omega), yp_up2_n _ _ (by omega), yp_up2_s]
  · rw [yp_up2_n _ _ (by omega), yp_up2_n _ _ (by omega), yp_up2_n _ _ (by omega), yp_up2_n _ _ (by omega), yp_up2_s]
  · rw [yp_up2_n _ _ (by omega), yp_up2_n _ _ (by omega), yp_up2_n _ _ (by omega), yp_up2_s]
  · rw [yp_up2_n _ _ (by omega), yp_up2_s]
set_option maxHeartbeats 1000000 in
theorem yp_opn_T (hR : yp_RCc B mm A) (hI : yp_INV A) {k : Nat} (hk : k ≤ yp_sF A) : yp_CT B (yp_opn B mm k) (yp_tb A) k 0 := by
  have h6 := hI.2.2.2.2.2.1
  obtain ⟨o1, o2, o3, o4, o5⟩ := yp_opn_v B mm k
  exact ⟨⟨o2, o3, fun i hi => by rw [yp_opn_n (by omega), hR.2.2.2.2.2.1.2.1 i (by omega), yp_tb_e hI (by omega)]⟩, by omega, Nat.zero_le k, yp_tb_lt hI⟩
set_option maxHeartbeats 1000000 in
theorem yp_txtR (hR : yp_RCc B mm A) (hI : yp_INV A) (x : Int32) (L : Nat) (hL : L ≤ 600) : (∃ k, k ≤ yp_sF A ∧ k ≤ L ∧ x = yp_N k ∧ fX11_startText (yp_SH B) B (yp_N k) (yp_N L) mm = some (.inl (), yp_opn B mm k)) ∨ ((x < yp_N 0 ∨ (¬ x < yp_N 0 ∧ yp_N (yp_sF A) < x) ∨ (¬ x < yp_N 0 ∧ ¬ yp_N (yp_sF A) < x ∧ yp_N L < x)) ∧ fX11_startText (yp_SH B) B x (yp_N L) mm = some (.inr 1, up2 mm B 17 (yp_sC1 A + yp_N 1))) := by
  have hA := yp_clsS B
  have hT := yp_tapS B
  have hn := @yp_nd1 B mm
  have h0 := @yp_nd0 B mm A hR
  have h6 := hI.2.2.2.2.2.1
  have e := hR.2.2.2.2.2.1.1
  rcases yp_rng x 2147483647 (by omega) with ⟨k, hk, rfl⟩ | h | h
  · by_cases h1 : k ≤ yp_sF A
    · by_cases h2 : k ≤ L
      · refine .inl ⟨k, h1, h2, rfl, ?_⟩
        simp (disch := omega) only [fX11_startText_j26, fX11_startText_j25, fX11_startText, hA, hT, e, ↓hn, ↓yp_smLN, ↓yp_smRN, fX8_open, Nat.reduceAdd, Nat.reduceMul, Nat.reduceSub, Nat.zero_add, Nat.add_zero, yp_LT, yp_nA, yp_nM, yp_ltF, yp_ltT, yp_leF, yp_leT, yp_eqF, eq_self, yp_eqM, yp_lt1N, yp_sbN, yp_sb2N, ↓reduceIte, ↓yp_iP11, ↓yp_iP12, ↓yp_m0P]
        rfl
      · refine .inr ⟨.inr (.inr ⟨by rw [yp_ltN (by omega) (by omega)]; omega, by rw [yp_ltN (by omega) (by omega)]; omega, by rw [yp_ltN (by omega) (by omega)]; omega⟩), ?_⟩
        simp (disch := omega) only [fX11_startText_j26, fX11_startText_j25, fX11_startText, hA, hT, e, ↓h0, ↓yp_smLN, ↓yp_smRN, Nat.reduceAdd, Nat.reduceMul, Nat.reduceSub, Nat.zero_add, Nat.add_zero, yp_LT, yp_nA, yp_nM, yp_ltF, yp_ltT, yp_leF, yp_leT, yp_eqF, eq_self, yp_eqM, yp_lt1N, yp_sbN, yp_sb2N, ↓reduceIte, ↓yp_iP11, ↓yp_iP12, ↓yp_m0P]
    · refine .inr ⟨.inr (.inl ⟨by rw [yp_ltN (by omega) (by omega)]; omega, by rw [yp_ltN (by omega) (by omega)]; omega⟩), ?_⟩
      simp (disch := omega) only [fX11_startText_j26, fX11_startText_j25, fX11_startText, hA, hT, e, ↓h0, ↓yp_smLN, ↓yp_smRN, Nat.reduceAdd, Nat.reduceMul, Nat.reduceSub, Nat.zero_add, Nat.add_zero, yp_LT, yp_nA, yp_nM, yp_ltF, yp_ltT, yp_leF, yp_leT, yp_eqF, eq_self, yp_eqM, yp_lt1N, yp_sbN, yp_sb2N, ↓reduceIte, ↓yp_iP11, ↓yp_iP12, ↓yp_m0P]
  · refine .inr ⟨.inl h.1, ?_⟩
    simp (disch := omega) only [fX11_startText_j26, fX11_startText_j25, fX11_startText, hA, hT, h.1, ↓h0, ↓yp_smLN, ↓yp_smRN, Nat.reduceAdd, Nat.reduceMul, Nat.reduceSub, Nat.zero_add, Nat.add_zero, yp_LT, yp_nA, yp_nM, yp_ltF, yp_ltT, yp_leF, yp_leT, yp_eqF, eq_self, yp_eqM, yp_lt1N, yp_sbN, yp_sb2N, ↓reduceIte, ↓yp_iP11, ↓yp_iP12, ↓yp_m0P]
  · exfalso
    have h1 := h.2
    rw [yp_ltTi, yp_tiN (by omega)] at h1
    have := Int32.toInt_lt x
    omega
def yp_beg (B : Nat) (m : Mem) (k : Nat) : Mem := up2 (up2 (up2 (up2 (up2 (up2 m (B + 517) 2 (yp_N 0)) (B + 517) 8 (-yp_N 1)) (B + 517) 3 (yp_N k)) (B + 517) 4 (yp_N 0)) (B + 517) 5 (-yp_N 1)) (B + 517) 7 (yp_N 0)
set_option maxHeartbeats 1000000 in
theorem yp_m_begins (B : Nat) (m : Mem) (k : Nat) : fX12_begins (yp_SH B) (B + 517) (yp_N k) m = some (yp_beg B m k) := by
  have hM := yp_mS B
  simp (disch := omega) only [fX12_begins, hM, Nat.reduceAdd, Nat.reduceMul, Nat.reduceSub, Nat.zero_add, Nat.add_zero, yp_LT, yp_nA, yp_nM, yp_ltF, yp_ltT, yp_leF, yp_leT, yp_eqF, eq_self, yp_eqM, yp_lt1N, yp_sbN, yp_sb2N, ↓reduceIte, ↓yp_iP11, ↓yp_iP12, ↓yp_m0P]
  rfl
set_option maxHeartbeats 1000000 in
theorem yp_beg_n {m : Mem} {k a j : Nat} (h : ¬ (a = B + 517 ∧ (j = 2 ∨ j = 3 ∨ j = 4 ∨ j = 5 ∨ j = 7 ∨ j = 8))) : yp_beg B m k a j = m a j := by
  unfold yp_beg
  rw [yp_up2_n _ _ (by omega), yp_up2_n _ _ (by omega), yp_up2_n _ _ (by omega), yp_up2_n _ _ (by omega), yp_up2_n _ _ (by omega), yp_up2_n _ _ (by omega)]
set_option maxHeartbeats 1000000 in
theorem yp_beg_v (B : Nat) (m : Mem) (k : Nat) : yp_beg B m k (B + 517) 2 = yp_N 0 ∧ yp_beg B m k (B + 517) 3 = yp_N k ∧ yp_beg B m k (B + 517) 4 = yp_N 0 ∧ yp_beg B m k (B + 517) 5 = -yp_N 1 ∧ yp_beg B m k (B + 517) 7 = yp_N 0 ∧ yp_beg B m k (B + 517) 8 = -yp_N 1 := by
  unfold yp_beg
  refine ⟨?_, ?_, ?_, ?_, yp_up2_s _ _ _ _, ?_⟩
  · rw [yp_up2_n _ _ (by omega), yp_up2_n _ _ (by omega), yp_up2_n _ _ (by omega), yp_up2_n _ _ (by omega), yp_up2_n _ _ (by omega), yp_up2_s]
  · rw [yp_up2_n _ _ (by omega), yp_up2_n _ _ (by omega), yp_up2_n _ _ (by omega), yp_up2_s]
  · rw [yp_up2_n _ _ (by omega), yp_up2_n _ _ (by omega), yp_up2_s]
  · rw [yp_up2_n _ _ (by omega), yp_up2_s]
  · rw [yp_up2_n _ _ (by omega), yp_up2_n _ _ (by omega), yp_up2_n _ _ (by omega), yp_up2_n _ _ (by omega), yp_up2_s]
set_option maxHeartbeats 1000000 in
theorem yp_beg_T {m : Mem} (hR : yp_RMm B m A) (hI : yp_INV A) {k : Nat} (hk : k ≤ yp_sF A) : yp_RT B (yp_beg B m k) (yp_tb A) k 0 := by
  have h6 := hI.2.2.2.2.2.1
  obtain ⟨o1, o2, o3, o4, o5, o6⟩ := yp_beg_v B m k
  exact ⟨⟨o2, o3, fun i hi => by rw [yp_beg_n (by omega), hR.2.2.2.2.2.1.2.1 i (by omega), yp_tb_e hI (by omega)]⟩, by omega, Nat.zero_le k, yp_tb_lt hI⟩
set_option maxHeartbeats 1000000 in
theorem yp_m_res1 {m : Mem} (h : m (B + 517) 5 = -yp_N 1) (v : Int32) : fX12_result (yp_SH B) (B + 517) v m = some (v, up2 m (B + 517) 8 (-yp_N 1)) := by
  have hM := yp_mS B
  have f := yp_m_fine1 (B := B) (m := up2 m (B + 517) 8 (-yp_N 1)) (by rw [yp_up2_n _ _ (by omega)]; exact h)
  simp (disch := omega) only [fX12_result_j26, fX12_result, hM, h, f, Nat.reduceAdd, Nat.reduceMul, Nat.reduceSub, Nat.zero_add, Nat.add_zero, yp_LT, yp_nA, yp_nM, yp_ltF, yp_ltT, yp_leF, yp_leT, yp_eqF, eq_self, yp_eqM, yp_lt1N, yp_sbN, yp_sb2N, ↓reduceIte, ↓yp_iP11, ↓yp_iP12, ↓yp_m0P]
set_option maxHeartbeats 1000000 in
theorem yp_m_res0 {m : Mem} {k x : Nat} (hx : x < 2147483648) (h : m (B + 517) 5 = yp_N x) (h6 : m (B + 517) 6 = yp_N k) (v : Int32) : fX12_result (yp_SH B) (B + 517) v m = some (yp_N k - yp_N 10, up2 m (B + 517) 8 (yp_N x)) := by
  have hM := yp_mS B
  have f := yp_m_fine0 (B := B) (m := up2 m (B + 517) 8 (yp_N x)) (by rw [yp_up2_n _ _ (by omega), h, yp_eqM hx]; exact fun h => h)
  have g : up2 m (B + 517) 8 (yp_N x) (B + 517) 6 = yp_N k := by rw [yp_up2_n _ _ (by omega)]; exact h6
  simp (disch := omega) only [fX12_result_j26, fX12_result, hM, h, f, g, Nat.reduceAdd, Nat.reduceMul, Nat.reduceSub, Nat.zero_add, Nat.add_zero, yp_LT, yp_nA, yp_nM, yp_ltF, yp_ltT, yp_leF, yp_leT, yp_eqF, eq_self, yp_eqM, yp_lt1N, yp_sbN, yp_sb2N, ↓reduceIte, ↓yp_iP11, ↓yp_iP12, ↓yp_m0P]
set_option maxHeartbeats 1000000 in
theorem yp_PM_f {f : Option ((Int32 ⊕ Nat) × Mem)} {g : Mem → Option (Int32 × Mem)} {hc : Nat → Option Int32} (hR : yp_RCc B mm A) (hI : yp_INV A) {k x : Nat} {m1 : Mem} (h1 : f = some (.inl (yp_N k - yp_N 10), m1)) (hF : ∀ a j, yp_KC B a j ∨ B + 517 ≤ a → a ≠ B + 1 → m1 a j = mm a j) (h2 : m1 (B + 1) 1 = yp_N 0) (h3 : m1 (B + 1) 5 = yp_N x) (hg : ∀ m, yp_RMm B m A → ∃ m2, g m = some (yp_N k - yp_N 10, m2) ∧ (∀ a j, yp_KM B a j ∨ a < B + 517 ∨ B + 542 ≤ a → ¬ (a = B + 517 ∧ (j = 2 ∨ j = 8)) → m2 a j = m a j) ∧ m2 (B + 517) 0 = yp_N 0 ∧ m2 (B + 517) 2 = yp_N 0 ∧ m2 (B + 517) 8 = yp_N x) : yp_PM B f g hc mm A :=
  ⟨.inl (yp_N k - yp_N 10), yp_N 0, yp_N k - yp_N 10, yp_txA A (yp_N x), hI.tx (yp_N x), ⟨m1, h1, hR.tx hI (fun a j h1 h2 => hF a j (.inl h1) h2) h2 h3, fun a j ha => hF a j (.inr ha) (by omega)⟩, fun m hm => by
    obtain ⟨m2, e1, e2, e3, e4, e5⟩ := hg m hm
    exact ⟨m2, yp_N k - yp_N 10, e1, e3, fun _ => rfl, hm.tx (fun a j h h2 => e2 a j (.inl h) h2) e4 e5, fun a j ha => e2 a j (.inr ha) (by omega)⟩, .inl ⟨rfl, rfl⟩⟩
end START

set_option maxHeartbeats 1000000 in
theorem yp_m_wiG (x a b : Int32) : fX12_within x a b = some (if x < a then yp_N 0 else if b < x then yp_N 0 else yp_N 1) := by
  simp (disch := omega) only [fX12_within, fX12_within_j14, fX12_within_j15, yp_ck0, yp_ck1, Nat.reduceLeDiff, Nat.reduceLT, Nat.reduceAdd, Nat.reduceMul, Nat.reduceSub, Nat.reduceEqDiff, Nat.le_refl, Nat.lt_irrefl, Nat.zero_add, Nat.add_zero, yp_LT, yp_nA, yp_nM, yp_leN, yp_ltN, yp_eqN, lt1, yp_sb, yp_sb2, if_false, if_true]
  split
  · rfl
  · split <;> rfl
set_option maxHeartbeats 1000000 in
theorem yp_wiP {γ : Type} (x a b : Int32) (F : Int32 → Option γ) : (fX12_within x a b).bind F = F (if x < a then yp_N 0 else if b < x then yp_N 0 else yp_N 1) := yp_opP (yp_m_wiG x a b) F
def yp_XE (B : Nat) (m : Mem) (k : Nat) (c : Int32) : Mem := up2 (up2 (yp_m0 B m) (B + 517) 0 c) (B + 518) k (yp_m0 B m (B + 518) k + yp_N 1)
def yp_FC (B : Nat) (mm m1 : Mem) : Prop := ∀ a j, yp_KC B a j ∨ B + 517 ≤ a → m1 a j = mm a j
def yp_FM (B : Nat) (m m2 : Mem) : Prop := ∀ a j, yp_KM B a j ∨ a < B + 517 ∨ B + 542 ≤ a ∨ (a = B + 517 ∧ j = 0) → m2 a j = yp_m0 B m a j
set_option maxHeartbeats 1000000 in
theorem yp_FC.rf {B : Nat} {mm : Mem} : yp_FC B mm mm := fun _ _ _ => rfl
set_option maxHeartbeats 1000000 in
theorem yp_FM.rf {B : Nat} {m : Mem} : yp_FM B m (yp_m0 B m) := fun _ _ _ => rfl
section PMH
variable {B : Nat} {mm m : Mem} {A : yp_St} {f : Option ((Int32 ⊕ Nat) × Mem)} {g : Mem → Option (Int32 × Mem)} {hc : Nat → Option Int32}
set_option maxHeartbeats 1000000 in
theorem yp_PM_e0 (hR : yp_RCc B mm A) (hI : yp_INV A) (h1 : f = some (.inr 0, up2 mm B 16 (yp_sC0 A + yp_N 1))) (h2 : ∀ m, yp_RMm B m A → g m = some (yp_N 0, yp_XE B m 0 (yp_N 1))) (h3 : hc 0 = some (yp_N 1)) : yp_PM B f g hc mm A :=
  ⟨.inr 0, yp_N 1, yp_N 0, yp_ex0 A, hI.e0, yp_CA_e0 hR hI h1, fun m hm => yp_MA_e (k := 0) (w := yp_N 0) (by omega) hm (h2 m hm) yp_n1, .inr ⟨0, rfl, h3, yp_n1⟩⟩
set_option maxHeartbeats 1000000 in
theorem yp_PM_e1 (hR : yp_RCc B mm A) (hI : yp_INV A) {c : Int32} (h1 : f = some (.inr 1, up2 mm B 17 (yp_sC1 A + yp_N 1))) (h2 : ∀ m, yp_RMm B m A → g m = some (yp_N 0, yp_XE B m 1 c)) (h3 : hc 1 = some c) (hc0 : c ≠ yp_N 0) : yp_PM B f g hc mm A :=
  ⟨.inr 1, c, yp_N 0, yp_ex1 A, hI.e1, yp_CA_e1 hR hI h1, fun m hm => yp_MA_e (k := 1) (w := yp_N 0) (by omega) hm (h2 m hm) hc0, .inr ⟨1, rfl, h3, hc0⟩⟩
set_option maxHeartbeats 1000000 in
theorem yp_PM_v (hR : yp_RCc B mm A) (hI : yp_INV A) {v : Int32} {m1 : Mem} (h1 : f = some (.inl v, m1)) (hF : yp_FC B mm m1) (h2 : ∀ m, yp_RMm B m A → ∃ m2, g m = some (v, m2) ∧ yp_FM B m m2) : yp_PM B f g hc mm A :=
  ⟨.inl v, yp_N 0, v, A, hI, yp_CA_v hR hI h1 hF, fun m hm => by
    obtain ⟨m2, e1, e2⟩ := h2 m hm
    exact yp_MA_v hm e1 ((e2 _ _ (.inr (.inr (.inr ⟨rfl, rfl⟩)))).trans (yp_m0t B m)) (fun a j h => e2 a j (h.elim .inl (fun h => .inr (h.elim .inl (fun h => .inr (.inl h)))))), .inl ⟨rfl, rfl⟩⟩
set_option maxHeartbeats 1000000 in
theorem yp_FM.fs {m2 : Mem} (h : yp_Fr (yp_FS B) (yp_m0 B m) m2) : yp_FM B m m2 := fun a j k => h a j (by unfold yp_KM at k; unfold yp_FS; omega)
set_option maxHeartbeats 1000000 in
theorem yp_PM_tk (hR : yp_RCc B mm A) (hI : yp_INV A) {v : Int32} (h1 : f = some (.inl v, mm)) (h2 : ∀ m m2, yp_RMm B m A → fX12_take (yp_SH B) (B + 517) (yp_m0 B m) = some m2 → yp_HM m2 (B + 533) (yp_sH A) → yp_CLm B m2 (yp_sQ A) → yp_RMm B m2 A → g m = some (v, m2)) : yp_PM B f g hc mm A :=
  yp_PM_v hR hI h1 yp_FC.rf (fun m hm => by
    obtain ⟨m2, a1, a2, a3, a4, a5, a6⟩ := yp_take_MA hm
    exact ⟨m2, h2 m m2 hm a1 a2 a3 a4, yp_FM.fs a6⟩)
set_option maxHeartbeats 1000000 in
theorem yp_PM_st (hR : yp_RCc B mm A) (hI : yp_INV A) {v : Int32} (h1 : f = some (.inl v, mm)) (h2 : ∀ m, yp_RMm B m A → yp_RMm B (yp_m0 B m) A → g m = some (v, yp_m0 B m)) : yp_PM B f g hc mm A :=
  yp_PM_v hR hI h1 yp_FC.rf (fun m hm => ⟨yp_m0 B m, h2 m hm (yp_m0R hm), yp_FM.rf⟩)
set_option maxHeartbeats 1000000 in
theorem yp_may10 (B : Nat) (m : Mem) : fX12_may (yp_SH B) (B + 517) (yp_N 0) (yp_N 1) (yp_N 0) (yp_m0 B m) = some (yp_N 0, yp_XE B m 0 (yp_N 1)) := yp_may0 B (yp_m0 B m) (yp_N 1) 0 (by omega) yp_n1 (yp_m0t B m)
set_option maxHeartbeats 1000000 in
theorem yp_may11 (B : Nat) (m : Mem) : fX12_may (yp_SH B) (B + 517) (yp_N 0) (yp_N 1) (yp_N 1) (yp_m0 B m) = some (yp_N 0, yp_XE B m 1 (yp_N 1)) := yp_may0 B (yp_m0 B m) (yp_N 1) 1 (by omega) yp_n1 (yp_m0t B m)
set_option maxHeartbeats 1000000 in
theorem yp_may21 (B : Nat) (m : Mem) : fX12_may (yp_SH B) (B + 517) (yp_N 0) (yp_N 2) (yp_N 1) (yp_m0 B m) = some (yp_N 0, yp_XE B m 1 (yp_N 2)) := yp_may0 B (yp_m0 B m) (yp_N 2) 1 (by omega) yp_n2 (yp_m0t B m)
set_option maxHeartbeats 1000000 in
theorem yp_mayG (B : Nat) (m : Mem) (c k : Int32) : fX12_may (yp_SH B) (B + 517) (yp_N 1) c k (yp_m0 B m) = some (yp_N 1, yp_m0 B m) := yp_may1 B (yp_m0 B m) c k (yp_m0t B m)
set_option maxHeartbeats 1000000 in
theorem yp_wi_bad {x : Int32} {n : Nat} (hn : n < 2147483648) (hb : x < yp_N 0 ∨ yp_N n ≤ x) : fX12_within x (yp_N 0) (yp_N n - yp_N 1) = some (yp_N 0) := by
  rw [yp_m_wiG]
  rcases hb with hb | hb
  · rw [if_pos hb]
  · by_cases e : x < yp_N 0
    · rw [if_pos e]
    · rw [if_neg e, if_pos]
      rw [yp_leTi, yp_tiN hn] at hb
      rw [yp_ltTi, yp_ti_sub (by rw [yp_tiN hn, yp_ti1]; omega) (by rw [yp_tiN hn, yp_ti1]; omega), yp_tiN hn, yp_ti1]
      omega
set_option maxHeartbeats 1000000 in
theorem yp_wi_good {n k : Nat} (hn : n < 2147483648) (hk : k < n) : fX12_within (yp_N k) (yp_N 0) (yp_N n - yp_N 1) = some (yp_N 1) := by
  rw [yp_nS (by omega)]
  simp (disch := omega) only [yp_m_wiG, Nat.reduceAdd, Nat.reduceMul, Nat.reduceSub, Nat.zero_add, Nat.add_zero, yp_LT, yp_nA, yp_nM, yp_ltF, yp_ltT, yp_leF, yp_leT, yp_eqF, eq_self, yp_eqM, lt1, yp_sbN, yp_sb2N, ↓reduceIte, ↓yp_iP11, ↓yp_iP12, ↓yp_m0P]
set_option maxHeartbeats 1000000 in
theorem yp_m_isF1 (hm : yp_RMm B m A) (hI : yp_INV A) {k : Nat} (hk : k < yp_qf (yp_sQ A)) : fX12_isFellow (yp_SH B) (B + 517) (yp_N k) (yp_N 1) (yp_m0 B m) = some (yp_N 1, yp_m0 B m) := by
  have hM := yp_mS B
  have e := (yp_m0R hm).1.1
  have hq := hI.1.1
  have hw := yp_wi_good (by omega) hk
  simp (disch := omega) only [fX12_isFellow, hM, e, hw, yp_mayG, yp_ck1, Nat.reduceAdd, Nat.reduceMul, Nat.reduceSub, Nat.zero_add, Nat.add_zero, yp_LT, yp_nA, yp_nM, yp_ltF, yp_ltT, yp_leF, yp_leT, yp_eqF, eq_self, yp_eqM, lt1, yp_sbN, yp_sb2N, ↓reduceIte, ↓yp_iP11, ↓yp_iP12, ↓yp_m0P]
set_option maxHeartbeats 1000000 in
theorem yp_m_isF0 (hm : yp_RMm B m A) (hI : yp_INV A) {x : Int32} (hb : x < yp_N 0 ∨ yp_N (yp_qf (yp_sQ A)) ≤ x) : fX12_isFellow (yp_SH B) (B + 517) x (yp_N 1) (yp_m0 B m) = some (yp_N 0, yp_XE B m 0 (yp_N 1)) := by
  have hM := yp_mS B
  have e := (yp_m0R hm).1.1
  have hq := hI.1.1
  have hw := yp_wi_bad (by omega) hb
  simp (disch := omega) only [fX12_isFellow, hM, e, hw, yp_may10, yp_ck0, Nat.reduceAdd, Nat.reduceMul, Nat.reduceSub, Nat.zero_add, Nat.add_zero, yp_LT, yp_nA, yp_nM, yp_ltF, yp_ltT, yp_leF, yp_leT, yp_eqF, eq_self, yp_eqM, lt1, yp_sbN, yp_sb2N, ↓reduceIte, ↓yp_iP11, ↓yp_iP12, ↓yp_m0P]
set_option maxHeartbeats 1000000 in
theorem yp_m_isG1 (hm : yp_RMm B m A) (hI : yp_INV A) {k : Nat} (hk : k < yp_qg (yp_sQ A)) : fX12_isGlass (yp_SH B) (B + 517) (yp_N k) (yp_N 1) (yp_m0 B m) = some (yp_N 1, yp_m0 B m) := by
  have hM := yp_mS B
  have e := (yp_m0R hm).1.2.1
  have hq := hI.1.2.1
  have hw := yp_wi_good (by omega) hk
  simp (disch := omega) only [fX12_isGlass, hM, e, hw, yp_mayG, yp_ck1, Nat.reduceAdd, Nat.reduceMul, Nat.reduceSub, Nat.zero_add, Nat.add_zero, yp_LT, yp_nA, yp_nM, yp_ltF, yp_ltT, yp_leF, yp_leT, yp_eqF, eq_self, yp_eqM, lt1, yp_sbN, yp_sb2N, ↓reduceIte, ↓yp_iP11, ↓yp_iP12, ↓yp_m0P]
set_option maxHeartbeats 1000000 in
theorem yp_m_isG0 (hm : yp_RMm B m A) (hI : yp_INV A) {x : Int32} (hb : x < yp_N 0 ∨ yp_N (yp_qg (yp_sQ A)) ≤ x) : fX12_isGlass (yp_SH B) (B + 517) x (yp_N 1) (yp_m0 B m) = some (yp_N 0, yp_XE B m 0 (yp_N 1)) := by
  have hM := yp_mS B
  have e := (yp_m0R hm).1.2.1
  have hq := hI.1.2.1
  have hw := yp_wi_bad (by omega) hb
  simp (disch := omega) only [fX12_isGlass, hM, e, hw, yp_may10, yp_ck0, Nat.reduceAdd, Nat.reduceMul, Nat.reduceSub, Nat.zero_add, Nat.add_zero, yp_LT, yp_nA, yp_nM, yp_ltF, yp_ltT, yp_leF, yp_leT, yp_eqF, eq_self, yp_eqM, lt1, yp_sbN, yp_sb2N, ↓reduceIte, ↓yp_iP11, ↓yp_iP12, ↓yp_m0P]
set_option maxHeartbeats 1000000 in
theorem yp_partR (x : Int32) : (∃ k, k < 7 ∧ x = yp_N k ∧ fX11_isPart (yp_N k) = some (yp_N 1) ∧ fX12_isPart (yp_N k) = some (yp_N 1)) ∨ (fX11_isPart x = some (yp_N 0) ∧ fX12_isPart x = some (yp_N 0)) := by
  rcases yp_rng x 2147483647 (by omega) with ⟨k, hk, rfl⟩ | h | h
  · by_cases h7 : k < 7
    · refine .inl ⟨k, h7, rfl, ?_, ?_⟩
      · simp (disch := omega) only [fX11_isPart_j15, fX11_isPart_j14, fX11_isPart, yp_ck1, Nat.reduceAdd, Nat.reduceMul, Nat.reduceSub, Nat.zero_add, Nat.add_zero, yp_LT, yp_nA, yp_nM, yp_ltF, yp_ltT, yp_leF, yp_leT, yp_eqF, eq_self, yp_eqM, lt1, yp_sbN, yp_sb2N, ↓reduceIte, ↓yp_iP11, ↓yp_iP12, ↓yp_m0P]
      · simp (disch := omega) only [fX12_isPart_j15, fX12_isPart_j14, fX12_isPart, yp_ck1, Nat.reduceAdd, Nat.reduceMul, Nat.reduceSub, Nat.zero_add, Nat.add_zero, yp_LT, yp_nA, yp_nM, yp_ltF, yp_ltT, yp_leF, yp_leT, yp_eqF, eq_self, yp_eqM, lt1, yp_sbN, yp_sb2N, ↓reduceIte, ↓yp_iP11, ↓yp_iP12, ↓yp_m0P]
    · refine .inr ⟨?_, ?_⟩
      · simp (disch := omega) only [fX11_isPart_j15, fX11_isPart_j14, fX11_isPart, yp_ck0, Nat.reduceAdd, Nat.reduceMul, Nat.reduceSub, Nat.zero_add, Nat.add_zero, yp_LT, yp_nA, yp_nM, yp_ltF, yp_ltT, yp_leF, yp_leT, yp_eqF, eq_self, yp_eqM, lt1, yp_sbN, yp_sb2N, ↓reduceIte, ↓yp_iP11, ↓yp_iP12, ↓yp_m0P]
      · simp (disch := omega) only [fX12_isPart_j15, fX12_isPart_j14, fX12_isPart, yp_ck0, Nat.reduceAdd, Nat.reduceMul, Nat.reduceSub, Nat.zero_add, Nat.add_zero, yp_LT, yp_nA, yp_nM, yp_ltF, yp_ltT, yp_leF, yp_leT, yp_eqF, eq_self, yp_eqM, lt1, yp_sbN, yp_sb2N, ↓reduceIte, ↓yp_iP11, ↓yp_iP12, ↓yp_m0P]
  · refine .inr ⟨?_, ?_⟩
    · simp (disch := omega) only [fX11_isPart_j15, fX11_isPart_j14, fX11_isPart, yp_ck0, h.1, Nat.reduceAdd, Nat.reduceMul, Nat.reduceSub, Nat.zero_add, Nat.add_zero, yp_LT, yp_nA, yp_nM, yp_ltF, yp_ltT, yp_leF, yp_leT, yp_eqF, eq_self, yp_eqM, lt1, yp_sbN, yp_sb2N, ↓reduceIte, ↓yp_iP11, ↓yp_iP12, ↓yp_m0P]
    · simp (disch := omega) only [fX12_isPart_j15, fX12_isPart_j14, fX12_isPart, yp_ck0, h.1, Nat.reduceAdd, Nat.reduceMul, Nat.reduceSub, Nat.zero_add, Nat.add_zero, yp_LT, yp_nA, yp_nM, yp_ltF, yp_ltT, yp_leF, yp_leT, yp_eqF, eq_self, yp_eqM, lt1, yp_sbN, yp_sb2N, ↓reduceIte, ↓yp_iP11, ↓yp_iP12, ↓yp_m0P]
  · exfalso
    have h1 := h.2
    rw [yp_ltTi, yp_tiN (by omega)] at h1
    have := Int32.toInt_lt x
    omega
set_option maxHeartbeats 1000000 in
theorem yp_plR (hR : yp_RCc B mm A) (hI : yp_INV A) (x : Int32) : (∃ k, k < yp_qw (yp_sQ A) ∧ x = yp_N k ∧ fX11_isPlace (yp_SH B) B (yp_N k) mm = some (yp_N 1)) ∨ ((x < yp_N 0 ∨ yp_N (yp_qw (yp_sQ A)) ≤ x) ∧ fX11_isPlace (yp_SH B) B x mm = some (yp_N 0)) := by
  have hA := yp_clsS B
  have e := hR.1.2.2.1
  have hq := hI.1.2.2.2.1
  rcases yp_rng x 2147483647 (by omega) with ⟨k, hk, rfl⟩ | h | h
  · by_cases h7 : k < yp_qw (yp_sQ A)
    · refine .inl ⟨k, h7, rfl, ?_⟩
      simp (disch := omega) only [fX11_isPlace_j20, fX11_isPlace_j19, fX11_isPlace, hA, e, yp_ck1, Nat.reduceAdd, Nat.reduceMul, Nat.reduceSub, Nat.zero_add, Nat.add_zero, yp_LT, yp_nA, yp_nM, yp_ltF, yp_ltT, yp_leF, yp_leT, yp_eqF, eq_self, yp_eqM, lt1, yp_sbN, yp_sb2N, ↓reduceIte, ↓yp_iP11, ↓yp_iP12, ↓yp_m0P]
    · refine .inr ⟨.inr (by rw [yp_leN (by omega) (by omega)]; omega), ?_⟩
      simp (disch := omega) only [fX11_isPlace_j20, fX11_isPlace_j19, fX11_isPlace, hA, e, yp_ck0, Nat.reduceAdd, Nat.reduceMul, Nat.reduceSub, Nat.zero_add, Nat.add_zero, yp_LT, yp_nA, yp_nM, yp_ltF, yp_ltT, yp_leF, yp_leT, yp_eqF, eq_self, yp_eqM, lt1, yp_sbN, yp_sb2N, ↓reduceIte, ↓yp_iP11, ↓yp_iP12, ↓yp_m0P]
  · refine .inr ⟨.inl h.1, ?_⟩
    simp (disch := omega) only [fX11_isPlace_j20, fX11_isPlace_j19, fX11_isPlace, hA, yp_ck0, h.1, Nat.reduceAdd, Nat.reduceMul, Nat.reduceSub, Nat.zero_add, Nat.add_zero, yp_LT, yp_nA, yp_nM, yp_ltF, yp_ltT, yp_leF, yp_leT, yp_eqF, eq_self, yp_eqM, lt1, yp_sbN, yp_sb2N, ↓reduceIte, ↓yp_iP11, ↓yp_iP12, ↓yp_m0P]
  · exfalso
    have h1 := h.2
    rw [yp_ltTi, yp_tiN (by omega)] at h1
    have := Int32.toInt_lt x
    omega
set_option maxHeartbeats 1000000 in
theorem yp_sh1 (n : Nat) (hn : n ≤ 8) : yp_N 1 <<< (yp_N n &&& yp_N 31) = yp_N (2 ^ n) := by
  have h : ∀ n : Fin 9, yp_N 1 <<< (yp_N n.val &&& yp_N 31) = yp_N (2 ^ n.val) := by decide +kernel
  exact h ⟨n, by omega⟩
set_option maxHeartbeats 1000000 in
theorem yp_p2le {n : Nat} (hn : n ≤ 8) : 2 ^ n ≤ 256 := Nat.pow_le_pow_right (n := 2) (by omega) hn
set_option maxHeartbeats 1000000 in
theorem yp_setR (hR : yp_RCc B mm A) (hI : yp_INV A) (x : Int32) : (∃ s, s < 2 ^ yp_qf (yp_sQ A) ∧ s < 64 ∧ x = yp_N s ∧ fX11_areFellows (yp_SH B) B (yp_N s) mm = some (yp_N 1) ∧ ∀ m, yp_RMm B m A → fX12_isSet (yp_SH B) (B + 517) (yp_N s) (yp_m0 B m) = some (yp_N 1)) ∨ (fX11_areFellows (yp_SH B) B x mm = some (yp_N 0) ∧ ∀ m, yp_RMm B m A → fX12_isSet (yp_SH B) (B + 517) x (yp_m0 B m) = some (yp_N 0)) := by
  have hA := yp_clsS B
  have hM := yp_mS B
  have e := hR.1.1
  have hq := hI.1.1
  have h2 : 2 ^ yp_qf (yp_sQ A) ≤ 2 ^ 6 := Nat.pow_le_pow_right (by omega) hq
  have h3 := yp_sh1 (yp_qf (yp_sQ A)) (by omega)
  rcases yp_rng x 2147483647 (by omega) with ⟨k, hk, rfl⟩ | h | h
  · by_cases h7 : k < 2 ^ yp_qf (yp_sQ A)
    · refine .inl ⟨k, h7, by omega, rfl, ?_, fun m hm => ?_⟩
      · simp (disch := omega) only [fX11_areFellows_j22, fX11_areFellows_j21, fX11_areFellows, hA, e, h3, yp_ck1, Nat.reduceAdd, Nat.reduceMul, Nat.reduceSub, Nat.zero_add, Nat.add_zero, yp_LT, yp_nA, yp_nM, yp_ltF, yp_ltT, yp_leF, yp_leT, yp_eqF, eq_self, yp_eqM, lt1, yp_sbN, yp_sb2N, ↓reduceIte, ↓yp_iP11, ↓yp_iP12, ↓yp_m0P]
      · have e2 := (yp_m0R hm).1.1
        simp (disch := omega) only [fX12_isSet_j19, fX12_isSet_j18, fX12_isSet, hM, e2, h3, yp_ck1, Nat.reduceAdd, Nat.reduceMul, Nat.reduceSub, Nat.zero_add, Nat.add_zero, yp_LT, yp_nA, yp_nM, yp_ltF, yp_ltT, yp_leF, yp_leT, yp_eqF, eq_self, yp_eqM, lt1, yp_sbN, yp_sb2N, ↓reduceIte, ↓yp_iP11, ↓yp_iP12, ↓yp_m0P]
    · refine .inr ⟨?_, fun m hm => ?_⟩
      · simp (disch := omega) only [fX11_areFellows_j22, fX11_areFellows_j21, fX11_areFellows, hA, e, h3, yp_ck0, Nat.reduceAdd, Nat.reduceMul, Nat.reduceSub, Nat.zero_add, Nat.add_zero, yp_LT, yp_nA, yp_nM, yp_ltF, yp_ltT, yp_leF, yp_leT, yp_eqF, eq_self, yp_eqM, lt1, yp_sbN, yp_sb2N, ↓reduceIte, ↓yp_iP11, ↓yp_iP12, ↓yp_m0P]
      · have e2 := (yp_m0R hm).1.1
        simp (disch := omega) only [fX12_isSet_j19, fX12_isSet_j18, fX12_isSet, hM, e2, h3, yp_ck0, Nat.reduceAdd, Nat.reduceMul, Nat.reduceSub, Nat.zero_add, Nat.add_zero, yp_LT, yp_nA, yp_nM, yp_ltF, yp_ltT, yp_leF, yp_leT, yp_eqF, eq_self, yp_eqM, lt1, yp_sbN, yp_sb2N, ↓reduceIte, ↓yp_iP11, ↓yp_iP12, ↓yp_m0P]
  · refine .inr ⟨?_, fun m hm => ?_⟩
    · simp (disch := omega) only [fX11_areFellows_j22, fX11_areFellows_j21, fX11_areFellows, hA, yp_ck0, h.1, Nat.reduceAdd, Nat.reduceMul, Nat.reduceSub, Nat.zero_add, Nat.add_zero, yp_LT, yp_nA, yp_nM, yp_ltF, yp_ltT, yp_leF, yp_leT, yp_eqF, eq_self, yp_eqM, lt1, yp_sbN, yp_sb2N, ↓reduceIte, ↓yp_iP11, ↓yp_iP12, ↓yp_m0P]
    · simp (disch := omega) only [fX12_isSet_j19, fX12_isSet_j18, fX12_isSet, hM, yp_ck0, h.1, Nat.reduceAdd, Nat.reduceMul, Nat.reduceSub, Nat.zero_add, Nat.add_zero, yp_LT, yp_nA, yp_nM, yp_ltF, yp_ltT, yp_leF, yp_leT, yp_eqF, eq_self, yp_eqM, lt1, yp_sbN, yp_sb2N, ↓reduceIte, ↓yp_iP11, ↓yp_iP12, ↓yp_m0P]
  · exfalso
    have h1 := h.2
    rw [yp_ltTi, yp_tiN (by omega)] at h1
    have := Int32.toInt_lt x
    omega
set_option maxHeartbeats 1000000 in
theorem yp_sum7 (hR : yp_RCc B mm A) (d o f : Nat) (hf : f < 6) (hs : yp_SH B (B + 33 + d) = some (.inl 42)) (h : ∀ k, k < 42 → mm (B + 33 + d) k = yp_sH A (o + k)) : fX11_sum (yp_SH B) (B + 33 + d) (yp_N (f * 7)) (yp_N (f * 7 + 7)) mm = some (yp_sm (fun i => yp_sH A (o + f * 7 + i)) 7) :=
  yp_h_sum (sh := yp_SH B) (mm := mm) (R := fun i => yp_sH A (o + f * 7 + i)) hs (f * 7) 7 (fun k hk => (h (f * 7 + k) (by omega)).trans (by show yp_sH A (o + (f * 7 + k)) = yp_sH A (o + f * 7 + k); rw [Nat.add_assoc])) (by omega) (by omega) (by omega)
set_option maxHeartbeats 1000000 in
theorem yp_HI.sp {Q : yp_EnvT} {H : Nat → Int32} (h : yp_HI Q H) (k : Nat) (hk : k < 42) : yp_N 0 ≤ H (84 + k) := by
  rw [yp_leTi, yp_ti0]; exact (h.1 k hk).2.2.2.1
set_option maxHeartbeats 1000000 in
theorem yp_lp_eq {Q : yp_EnvT} {H : Nat → Int32} (hH : yp_HI Q H) (f : Nat) (hf : f < 6) : yp_fo (yp_lpG H f) 7 (-yp_N 1) = yp_fo (yp_spG H f (yp_N 0)) 7 (-yp_N 1) := yp_fo_congr (fun k s hk => by
  unfold yp_lpG yp_spG
  simp only [yp_le0 (hH.nn1 (f * 7 + k) (by omega)), eq_self, if_true])
set_option maxHeartbeats 1000000 in
theorem yp_gp_eq {Q : yp_EnvT} {H : Nat → Int32} (hH : yp_HI Q H) (f : Nat) (hf : f < 6) : yp_fo (yp_gpG H f) 7 (-yp_N 1) = yp_fo (yp_spG H f (yp_N 1)) 7 (-yp_N 1) := yp_fo_congr (fun k s hk => by
  have h1 := hH.sp (f * 7 + k) (by omega)
  unfold yp_gpG yp_spG
  simp only [yp_le0 (hH.nn1 (f * 7 + k) (by omega)), show (yp_N 1 = yp_N 0) = False from eq_false (by decide), if_false]
  by_cases e : H (42 + (f * 7 + k)) ≤ yp_N 0
  · rw [if_pos e, if_pos e]
  · rw [if_neg e, if_neg e]
    unfold mxI
    by_cases e2 : s = -yp_N 1
    · rw [if_pos e2, if_pos]
      rw [e2, yp_ltTi, yp_tiM]
      rw [yp_leTi, yp_ti0] at h1
      omega
    · rw [if_neg e2]
      by_cases e3 : H (84 + (f * 7 + k)) ≤ s
      · rw [if_pos e3, if_neg (Int32.not_lt.mpr e3)]
      · rw [if_neg e3, if_pos (Int32.not_le.mp e3)])
set_option maxHeartbeats 1000000 in
theorem yp_dk_eq (H : Nat → Int32) (f : Nat) : yp_fo (yp_dkG H f) 7 (yp_N 0) = yp_fo (fun k a => a ||| (if H (f * 7 + k) = yp_N 0 ∧ H (42 + (f * 7 + k)) = yp_N 0 then yp_b1 k else yp_N 0)) 7 (yp_N 0) := yp_fo_congr (fun k s hk => by
  unfold yp_dkG
  split
  · rfl
  · exact (yp_or0 s).symm)
end PMH

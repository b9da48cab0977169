section ASK7
variable {B : Nat} {mm : Mem} {A : yp_St}
def yp_L6 (k : Nat) : Int64 := Int64.ofNat k
set_option maxHeartbeats 1000000 in
theorem yp_l6ti {k : Nat} (h : k < 9223372036854775808) : (yp_L6 k).toInt = k := Int64.toInt_ofNat_of_lt (by simpa using h)
set_option maxHeartbeats 1000000 in
theorem yp_l6rm {a b : Nat} (ha : a < 9223372036854775808) (hb : b < 9223372036854775808) (h0 : b ≠ 0) : rmL (yp_L6 a) (yp_L6 b) = some (yp_L6 (a % b)) := by
  have e0 : ¬ yp_L6 b = 0 := fun h => by
    have h2 : (yp_L6 b).toInt = (0 : Int64).toInt := by rw [h]
    rw [yp_l6ti hb] at h2
    have h3 : (0 : Int64).toInt = 0 := rfl
    rw [h3] at h2
    omega
  unfold rmL
  rw [if_neg e0]
  refine congrArg some ?_
  have e1 : yp_L6 a / yp_L6 b = yp_L6 (a / b) := (Int64.ofNat_div (by simpa using ha) (by simpa using hb)).symm
  have e2 : yp_L6 (a / b) * yp_L6 b = yp_L6 (a / b * b) := (Int64.ofNat_mul _ _).symm
  have e3 : yp_L6 (a % b) + yp_L6 (a / b * b) = yp_L6 a := by
    rw [show yp_L6 a = yp_L6 (a % b + a / b * b) by rw [Nat.mul_comm (a / b) b, Nat.mod_add_div]]
    exact (Int64.ofNat_add _ _).symm
  rw [e1, e2, ← e3, Int64.add_sub_cancel]
set_option maxHeartbeats 1000000 in
theorem yp_l6cmp0 : lg_cmp (yp_L6 0) 0 = yp_N 0 := yp_lg_self 0
set_option maxHeartbeats 1000000 in
theorem yp_l6cmp {b : Nat} (hb : b < 9223372036854775808) (h0 : b ≠ 0) : lg_cmp (yp_L6 b) 0 = yp_N 1 := by
  unfold lg_cmp
  have h3 : (0 : Int64).toInt = 0 := rfl
  rw [if_pos]
  · rfl
  · show (0 : Int64) < yp_L6 b
    rw [Int64.lt_iff_toInt_lt, yp_l6ti hb, h3]
    omega
set_option maxHeartbeats 1000000 in
theorem yp_eu_half {a b k : Nat} (h : b < a) (hp : a * b * 2 ^ k ≤ 2 ^ 96) : b * (a % b) * 2 ^ (k + 1) ≤ 2 ^ 96 := by
  by_cases hb : b = 0
  · subst hb; simp
  · have h1 : 2 * (a % b) ≤ a := by
      have h2 := Nat.mod_lt a (show b > 0 by omega)
      have h3 : a % b + b ≤ a := by
        have h4 := Nat.mod_add_div a b
        have h5 : 1 ≤ a / b := Nat.div_pos (by omega) (by omega)
        have h6 : b * 1 ≤ b * (a / b) := Nat.mul_le_mul_left b h5
        omega
      omega
    calc b * (a % b) * 2 ^ (k + 1) = b * (2 * (a % b)) * 2 ^ k := by
          rw [Nat.pow_succ]
          simp only [Nat.mul_comm, Nat.mul_left_comm, Nat.mul_assoc]
      _ ≤ b * a * 2 ^ k := Nat.mul_le_mul_right _ (Nat.mul_le_mul_left _ h1)
      _ = a * b * 2 ^ k := by rw [Nat.mul_comm b a]
      _ ≤ 2 ^ 96 := hp
def yp_euI (g : Nat) (k : Nat) (a b : Nat) : Prop := a ≤ 2 ^ 48 ∧ b ≤ 2 ^ 48 ∧ Nat.gcd b a = g ∧ (k = 0 ∨ (1 ≤ k ∧ b < a ∧ a * b * 2 ^ (k - 1) ≤ 2 ^ 96))
set_option maxHeartbeats 1000000 in
theorem yp_eu_next {g k a b : Nat} (h : yp_euI g k a b) (hb : b ≠ 0) : k < 98 ∧ yp_euI g (k + 1) b (a % b) := by
  obtain ⟨h1, h2, h3, h4⟩ := h
  have hm := Nat.mod_lt a (show b > 0 by omega)
  have hg : Nat.gcd (a % b) b = g := by rw [← h3, Nat.gcd_rec b a]
  rcases h4 with rfl | ⟨h4, h5, h6⟩
  · refine ⟨by omega, h2, by omega, hg, .inr ⟨by omega, hm, ?_⟩⟩
    show b * (a % b) * 2 ^ 0 ≤ 2 ^ 96
    calc b * (a % b) * 2 ^ 0 = b * (a % b) := by simp
      _ ≤ 2 ^ 48 * 2 ^ 48 := Nat.mul_le_mul h2 (by omega)
      _ = 2 ^ 96 := by rw [← Nat.pow_add]
  · obtain ⟨j, rfl⟩ : ∃ j, k = j + 1 := ⟨k - 1, by omega⟩
    refine ⟨?_, h2, by omega, hg, .inr ⟨by omega, hm, yp_eu_half h5 h6⟩⟩
    have h7 : 1 ≤ a * b := Nat.mul_pos (by omega) (by omega)
    have h8 : 2 ^ j ≤ 2 ^ 96 := Nat.le_trans (by
      calc 2 ^ j = 1 * 2 ^ j := by simp
        _ ≤ a * b * 2 ^ j := Nat.mul_le_mul_right _ h7) h6
    have h9 : j ≤ 96 := (Nat.pow_le_pow_iff_right (by omega)).mp h8
    omega
set_option maxHeartbeats 1000000 in
theorem yp_eu_c {a0 b0 : Nat} (ha : a0 ≤ 2 ^ 48) (hb : b0 ≤ 2 ^ 48) (x0 x2 : Int64) (x4 : Int32) : loopN (fun st : Int64 × Int64 × Int32 => fX11_inLeastTerms_b9 x0 x2 x4 st.1 st.2.1 st.2.2) FU (yp_L6 a0, yp_L6 b0, yp_N 0) = some (yp_L6 (Nat.gcd b0 a0)) := by
  obtain ⟨r, h1, h2⟩ := yp_lpI (step := fun st : Int64 × Int64 × Int32 => fX11_inLeastTerms_b9 x0 x2 x4 st.1 st.2.1 st.2.2) (fun k st => ∃ a b, st = (yp_L6 a, yp_L6 b, yp_N k) ∧ yp_euI (Nat.gcd b0 a0) k a b) (fun r => r = yp_L6 (Nat.gcd b0 a0)) 98 (fun k st hk hJ => by
    obtain ⟨a, b, rfl, hE⟩ := hJ
    have e48 : (2 : Nat) ^ 48 = 281474976710656 := by decide
    have ha := hE.1
    have hb := hE.2.1
    by_cases e : b = 0
    · subst e
      refine .inr ⟨yp_L6 a, ?_, ?_⟩
      · simp (disch := omega) only [fX11_inLeastTerms_b9, yp_l6cmp0, Nat.reduceAdd, Nat.reduceMul, Nat.reduceSub, Nat.zero_add, Nat.add_zero, yp_LT, yp_nA, yp_nM, yp_ltF, yp_ltT, yp_leF, yp_leT, yp_eqF, eq_self, yp_eqM, lt1, yp_sbN, yp_sb2N, ↓reduceIte, ↓yp_iP11, ↓yp_iP12, ↓yp_m0P]
      · have := hE.2.2.1
        rw [Nat.gcd_zero_left] at this
        rw [this]
    · have h1 := yp_eu_next hE e
      refine .inl ⟨h1.1, (yp_L6 b, yp_L6 (a % b), yp_N (k + 1)), ?_, b, a % b, rfl, h1.2⟩
      have e1 := yp_l6rm (a := a) (b := b) (by omega) (by omega) e
      have e2 := yp_l6cmp (b := b) (by omega) e
      simp (disch := omega) only [fX11_inLeastTerms_b9, e1, e2, Nat.reduceAdd, Nat.reduceMul, Nat.reduceSub, Nat.zero_add, Nat.add_zero, yp_LT, yp_nA, yp_nM, yp_ltF, yp_ltT, yp_leF, yp_leT, yp_eqF, eq_self, yp_eqM, lt1, yp_sbN, yp_sb2N, ↓reduceIte, ↓yp_iP11, ↓yp_iP12, ↓yp_m0P]) (show 98 < FU by rw [yp_FUe]; omega) (s0 := (yp_L6 a0, yp_L6 b0, yp_N 0)) ⟨a0, b0, rfl, ha, hb, rfl, .inl rfl⟩
  rw [h1, h2]
set_option maxHeartbeats 1000000 in
theorem yp_eu_m {a0 b0 : Nat} (ha : a0 ≤ 2 ^ 48) (hb : b0 ≤ 2 ^ 48) (x0 x2 : Int64) (x4 : Int32) : loopN (fun st : Int64 × Int64 => fX12_least_b6 x0 x2 x4 st.1 st.2) FU (yp_L6 a0, yp_L6 b0) = some (yp_L6 (Nat.gcd b0 a0)) := by
  obtain ⟨r, h1, h2⟩ := yp_lpI (step := fun st : Int64 × Int64 => fX12_least_b6 x0 x2 x4 st.1 st.2) (fun k st => ∃ a b, st = (yp_L6 a, yp_L6 b) ∧ yp_euI (Nat.gcd b0 a0) k a b) (fun r => r = yp_L6 (Nat.gcd b0 a0)) 98 (fun k st hk hJ => by
    obtain ⟨a, b, rfl, hE⟩ := hJ
    have e48 : (2 : Nat) ^ 48 = 281474976710656 := by decide
    have ha := hE.1
    have hb := hE.2.1
    by_cases e : b = 0
    · subst e
      refine .inr ⟨yp_L6 a, ?_, ?_⟩
      · simp (disch := omega) only [fX12_least_b6, yp_l6cmp0, Nat.reduceAdd, Nat.reduceMul, Nat.reduceSub, Nat.zero_add, Nat.add_zero, yp_LT, yp_nA, yp_nM, yp_ltF, yp_ltT, yp_leF, yp_leT, yp_eqF, eq_self, yp_eqM, lt1, yp_sbN, yp_sb2N, ↓reduceIte, ↓yp_iP11, ↓yp_iP12, ↓yp_m0P]
      · have := hE.2.2.1
        rw [Nat.gcd_zero_left] at this
        rw [this]
    · have h1 := yp_eu_next hE e
      refine .inl ⟨h1.1, (yp_L6 b, yp_L6 (a % b)), ?_, b, a % b, rfl, h1.2⟩
      have e1 := yp_l6rm (a := a) (b := b) (by omega) (by omega) e
      have e2 := yp_l6cmp (b := b) (by omega) e
      simp (disch := omega) only [fX12_least_b6, e1, e2, Nat.reduceAdd, Nat.reduceMul, Nat.reduceSub, Nat.zero_add, Nat.add_zero, yp_LT, yp_nA, yp_nM, yp_ltF, yp_ltT, yp_leF, yp_leT, yp_eqF, eq_self, yp_eqM, lt1, yp_sbN, yp_sb2N, ↓reduceIte, ↓yp_iP11, ↓yp_iP12, ↓yp_m0P]) (show 98 < FU by rw [yp_FUe]; omega) (s0 := (yp_L6 a0, yp_L6 b0)) ⟨a0, b0, rfl, ha, hb, rfl, .inl rfl⟩
  rw [h1, h2]
set_option maxHeartbeats 1000000 in
theorem yp_eu_eq {a0 b0 : Nat} (ha : a0 ≤ 2 ^ 48) (hb : b0 ≤ 2 ^ 48) (hb1 : 1 ≤ b0) (h : Nat) (hh : h ≤ 1) : ∃ v, fX11_inLeastTerms (yp_L6 a0) (yp_L6 b0) (yp_N h) = some v ∧ fX12_least (yp_L6 a0) (yp_L6 b0) (yp_N h) = some v := by
  have e48 : (2 : Nat) ^ 48 = 281474976710656 := by decide
  have g1 : 1 ≤ Nat.gcd b0 a0 := Nat.gcd_pos_of_pos_left _ hb1
  have g2 : Nat.gcd b0 a0 ≤ b0 := Nat.gcd_le_left _ hb1
  have h3 : (0 : Int64).toInt = 0 := rfl
  have h4 : (1 : Int64).toInt = 1 := rfl
  have e1 := yp_eu_c ha hb (yp_L6 a0) (yp_L6 b0) (yp_N h)
  have e2 := yp_eu_m ha hb (yp_L6 a0) (yp_L6 b0) (yp_N h)
  generalize Nat.gcd b0 a0 = g at g1 g2 e1 e2
  have e3 : mxL 1 (yp_L6 g) = yp_L6 g := by
    unfold mxL
    rw [if_neg]
    rw [Int64.lt_iff_toInt_lt, yp_l6ti (by omega), h4]
    omega
  have e4 : ¬ yp_L6 g = 0 := fun h => by
    have h2 : (yp_L6 g).toInt = (0 : Int64).toInt := by rw [h]
    rw [yp_l6ti (by omega), h3] at h2
    omega
  have e5 : ∀ x : Int64, dvL x (yp_L6 g) = some (x / yp_L6 g) := fun x => by unfold dvL; rw [if_neg e4]
  rcases yp_z01 hh with rfl | rfl
  · refine ⟨yp_L6 a0 / yp_L6 g, ?_, ?_⟩
    · simp (disch := omega) only [fX11_inLeastTerms_j68, fX11_inLeastTerms_j44, fX11_inLeastTerms, e1, e3, e5, Nat.reduceAdd, Nat.reduceMul, Nat.reduceSub, Nat.zero_add, Nat.add_zero, yp_LT, yp_nA, yp_nM, yp_ltF, yp_ltT, yp_leF, yp_leT, yp_eqF, eq_self, yp_eqM, lt1, yp_sbN, yp_sb2N, ↓reduceIte, ↓yp_iP11, ↓yp_iP12, ↓yp_m0P]
    · simp (disch := omega) only [fX12_least_j41, fX12_least_j31, fX12_least, e2, e5, Nat.reduceAdd, Nat.reduceMul, Nat.reduceSub, Nat.zero_add, Nat.add_zero, yp_LT, yp_nA, yp_nM, yp_ltF, yp_ltT, yp_leF, yp_leT, yp_eqF, eq_self, yp_eqM, lt1, yp_sbN, yp_sb2N, ↓reduceIte, ↓yp_iP11, ↓yp_iP12, ↓yp_m0P]
  · refine ⟨yp_L6 b0 / yp_L6 g, ?_, ?_⟩
    · simp (disch := omega) only [fX11_inLeastTerms_j68, fX11_inLeastTerms_j44, fX11_inLeastTerms, e1, e3, e5, Nat.reduceAdd, Nat.reduceMul, Nat.reduceSub, Nat.zero_add, Nat.add_zero, yp_LT, yp_nA, yp_nM, yp_ltF, yp_ltT, yp_leF, yp_leT, yp_eqF, eq_self, yp_eqM, lt1, yp_sbN, yp_sb2N, ↓reduceIte, ↓yp_iP11, ↓yp_iP12, ↓yp_m0P]
    · simp (disch := omega) only [fX12_least_j41, fX12_least_j31, fX12_least, e2, e5, Nat.reduceAdd, Nat.reduceMul, Nat.reduceSub, Nat.zero_add, Nat.add_zero, yp_LT, yp_nA, yp_nM, yp_ltF, yp_ltT, yp_leF, yp_leT, yp_eqF, eq_self, yp_eqM, lt1, yp_sbN, yp_sb2N, ↓reduceIte, ↓yp_iP11, ↓yp_iP12, ↓yp_m0P]
def yp_fct (k : Nat) : Nat := if k = 2 then 2 else if k = 3 then 6 else if k = 4 then 24 else if k = 5 then 120 else if k = 6 then 720 else if k = 7 then 5040 else 1
set_option maxHeartbeats 1000000 in
theorem yp_fct_m (k : Nat) (hk : k ≤ 7) : fX12_allOrders (yp_N k) = some (yp_N (yp_fct k)) := by
  have h : ∀ k : Fin 8, loopN (fun st : Int32 × Int32 => fX12_allOrders_b4 (yp_N k.val) st.1 st.2) 8 (yp_N 1, yp_N 2) = some (yp_N (yp_fct k.val)) := by decide +kernel
  have h1 := yp_lpM (h ⟨k, by omega⟩) (m := FU) (by rw [yp_FUe]; omega)
  simp (disch := omega) only [fX12_allOrders_j19, fX12_allOrders, h1, Nat.reduceAdd, Nat.reduceMul, Nat.reduceSub, Nat.zero_add, Nat.add_zero, yp_LT, yp_nA, yp_nM, yp_ltF, yp_ltT, yp_leF, yp_leT, yp_eqF, eq_self, yp_eqM, lt1, yp_sbN, yp_sb2N, ↓reduceIte, ↓yp_iP11, ↓yp_iP12, ↓yp_m0P]
set_option maxHeartbeats 1000000 in
theorem yp_fct_c (k : Nat) (hk : k ≤ 6) : fcL (yp_N k) = some (yp_N (yp_fct k)) := by
  have h : ∀ k : Fin 7, fcL (yp_N k.val) = some (yp_N (yp_fct k.val)) := by decide +kernel
  exact h ⟨k, by omega⟩
set_option maxHeartbeats 1000000 in
theorem yp_pc6 (s c : Nat) (hs : s < 128) (hc : c < 7) (h : yp_bt (yp_N s) c = yp_N 0) : yp_pcn s ≤ 6 := by
  have h1 : ∀ s : Fin 128, ∀ c : Fin 7, yp_bt (yp_N s.val) c.val = yp_N 0 → yp_pcn s.val ≤ 6 := by decide +kernel
  exact h1 ⟨s, hs⟩ ⟨c, hc⟩ h
set_option maxHeartbeats 1000000 in
theorem yp_fct720 (k : Nat) (hk : k ≤ 6) : yp_fct k * yp_fct (6 - k) ≤ 720 := by
  have h : ∀ k : Fin 7, yp_fct k.val * yp_fct (6 - k.val) ≤ 720 := by decide +kernel
  exact h ⟨k, by omega⟩
def yp_pwG (H : Nat → Int32) (f c q s a : Nat) : Nat := if yp_swV H f c q s = yp_N 0 then a else a + yp_fct (yp_pcn s) * yp_fct (6 - yp_pcn s)
set_option maxHeartbeats 1000000 in
theorem yp_sw_bt {H : Nat → Int32} {f c q s : Nat} (h : ¬ yp_swV H f c q s = yp_N 0) : yp_bt (yp_N s) c = yp_N 0 := by
  unfold yp_swV at h
  by_cases e : yp_bt (yp_N s) c = yp_N 0
  · exact e
  · rw [if_neg e] at h; exact absurd rfl h
set_option maxHeartbeats 1000000 in
theorem yp_pw_b (H : Nat → Int32) (f c q : Nat) (hc : c < 7) : ∀ n, n ≤ 128 → yp_fo (yp_pwG H f c q) n 0 ≤ 720 * n := by
  intro n
  induction n with
  | zero => intro _; exact Nat.le_refl 0
  | succ n ih =>
    intro hn
    have h1 := ih (by omega)
    rw [yp_fo_s]
    generalize yp_fo (yp_pwG H f c q) n 0 = z at h1
    unfold yp_pwG
    split
    · omega
    · rename_i e
      have := yp_fct720 (yp_pcn n) (yp_pc6 n c (by omega) hc (yp_sw_bt e))
      omega
set_option maxHeartbeats 1000000 in
theorem yp_toL6 {k : Nat} (h : k < 2147483648) : (yp_N k).toInt64 = yp_L6 k := by
  rw [← Int64.toInt_inj, Int32.toInt_toInt64, yp_tiN h, yp_l6ti (by omega)]
set_option maxHeartbeats 1000000 in
theorem yp_p_power (hR : yp_RCc B mm A) (hI : yp_INV A) (x y z w : Int32) : yp_PM B (fX11_power (yp_SH B) B x y z w mm) (fun m => fX12_power (yp_SH B) (B + 517) x y z w m) hcB mm A := by
  have hA := yp_clsS B
  have hM := yp_mS B
  have hn := @yp_nd1 B mm
  have h0 := @yp_nd0 B mm A hR
  have hq := hI.1.1
  rcases yp_c_needF hR hI x with ⟨f, hf, rfl, hc⟩ | ⟨hb, hc⟩
  rotate_left
  · exact yp_PM_e0 hR hI (by simp (disch := omega) only [fX11_power_j99, fX11_power_j93, fX11_power_j36, fX11_power_j35, fX11_power_j31, fX11_power, hA, ↓yp_bdP hc, ↓yp_smL, ↓yp_smR, Nat.reduceAdd, Nat.reduceMul, Nat.reduceSub, Nat.zero_add, Nat.add_zero, yp_LT, yp_nA, yp_nM, yp_ltF, yp_ltT, yp_leF, yp_leT, yp_eqF, eq_self, yp_eqM, lt1, yp_sbN, yp_sb2N, ↓reduceIte, ↓yp_iP11, ↓yp_iP12, ↓yp_m0P]) (fun m hm => by simp (disch := omega) only [fX12_power_j56, fX12_power_j115, fX12_power_j109, fX12_power_j48, fX12_power_j47, fX12_power, hM, yp_m0e, yp_m_isF0 hm hI hb, Nat.reduceAdd, Nat.reduceMul, Nat.reduceSub, Nat.zero_add, Nat.add_zero, yp_LT, yp_nA, yp_nM, yp_ltF, yp_ltT, yp_leF, yp_leT, yp_eqF, eq_self, yp_eqM, lt1, yp_sbN, yp_sb2N, ↓reduceIte, ↓yp_iP11, ↓yp_iP12, ↓yp_m0P]) rfl
  have hf6 : f < 6 := by omega
  rcases yp_partR y with ⟨c, hcc, rfl, q1, q2⟩ | ⟨q1, q2⟩
  rotate_left
  · exact yp_PM_e1 hR hI (by simp (disch := omega) only [fX11_power_j99, fX11_power_j93, fX11_power_j36, fX11_power_j35, fX11_power_j31, fX11_power, hA, ↓yp_bdP hc, ↓h0, ↓yp_opP q1, ↓yp_smL, ↓yp_smR, Nat.reduceAdd, Nat.reduceMul, Nat.reduceSub, Nat.zero_add, Nat.add_zero, yp_LT, yp_nA, yp_nM, yp_ltF, yp_ltT, yp_leF, yp_leT, yp_eqF, eq_self, yp_eqM, lt1, yp_sbN, yp_sb2N, ↓reduceIte, ↓yp_iP11, ↓yp_iP12, ↓yp_m0P]) (fun m hm => by simp (disch := omega) only [fX12_power_j56, fX12_power_j115, fX12_power_j109, fX12_power_j48, fX12_power_j47, fX12_power, hM, yp_m0e, yp_m_isF1 hm hI hf, ↓yp_opP q2, yp_may21, Nat.reduceAdd, Nat.reduceMul, Nat.reduceSub, Nat.zero_add, Nat.add_zero, yp_LT, yp_nA, yp_nM, yp_ltF, yp_ltT, yp_leF, yp_leT, yp_eqF, eq_self, yp_eqM, lt1, yp_sbN, yp_sb2N, ↓reduceIte, ↓yp_iP11, ↓yp_iP12, ↓yp_m0P]) rfl yp_n2
  rcases yp_quR z with ⟨q, _, _, rfl, q3, q4⟩ | ⟨q3, q4⟩
  rotate_left
  · exact yp_PM_e1 hR hI (by simp (disch := omega) only [fX11_power_j99, fX11_power_j93, fX11_power_j36, fX11_power_j35, fX11_power_j31, fX11_power, hA, ↓yp_bdP hc, ↓h0, ↓yp_opP q1, ↓yp_opP q3, ↓yp_smL, ↓yp_smR, Nat.reduceAdd, Nat.reduceMul, Nat.reduceSub, Nat.zero_add, Nat.add_zero, yp_LT, yp_nA, yp_nM, yp_ltF, yp_ltT, yp_leF, yp_leT, yp_eqF, eq_self, yp_eqM, lt1, yp_sbN, yp_sb2N, ↓reduceIte, ↓yp_iP11, ↓yp_iP12, ↓yp_m0P]) (fun m hm => by simp (disch := omega) only [fX12_power_j56, fX12_power_j115, fX12_power_j109, fX12_power_j48, fX12_power_j47, fX12_power, hM, yp_m0e, yp_m_isF1 hm hI hf, ↓yp_opP q2, ↓yp_opP q4, yp_may21, Nat.reduceAdd, Nat.reduceMul, Nat.reduceSub, Nat.zero_add, Nat.add_zero, yp_LT, yp_nA, yp_nM, yp_ltF, yp_ltT, yp_leF, yp_leT, yp_eqF, eq_self, yp_eqM, lt1, yp_sbN, yp_sb2N, ↓reduceIte, ↓yp_iP11, ↓yp_iP12, ↓yp_m0P]) rfl yp_n2
  rcases yp_rng w 1 (by omega) with ⟨k, hk, rfl⟩ | h | h
  rotate_left
  · have lg9 := yp_lt_ne h
    exact yp_PM_e1 hR hI (by simp (disch := omega) only [fX11_power_j99, fX11_power_j93, fX11_power_j36, fX11_power_j35, fX11_power_j31, fX11_power, hA, ↓yp_bdP hc, ↓h0, ↓yp_opP q1, ↓yp_opP q3, h, lg9, ↓yp_smL, ↓yp_smR, Nat.reduceAdd, Nat.reduceMul, Nat.reduceSub, Nat.zero_add, Nat.add_zero, yp_LT, yp_nA, yp_nM, yp_ltF, yp_ltT, yp_leF, yp_leT, yp_eqF, eq_self, yp_eqM, lt1, yp_sbN, yp_sb2N, ↓reduceIte, ↓yp_iP11, ↓yp_iP12, ↓yp_m0P]) (fun m hm => by simp (disch := omega) only [fX12_power_j56, fX12_power_j115, fX12_power_j109, fX12_power_j48, fX12_power_j47, fX12_power, hM, yp_m0e, yp_m_isF1 hm hI hf, ↓yp_opP q2, ↓yp_opP q4, ↓yp_wiP, h, yp_may21, Nat.reduceAdd, Nat.reduceMul, Nat.reduceSub, Nat.zero_add, Nat.add_zero, yp_LT, yp_nA, yp_nM, yp_ltF, yp_ltT, yp_leF, yp_leT, yp_eqF, eq_self, yp_eqM, lt1, yp_sbN, yp_sb2N, ↓reduceIte, ↓yp_iP11, ↓yp_iP12, ↓yp_m0P]) rfl yp_n2
  · have lg9 := yp_gt_ne h
    exact yp_PM_e1 hR hI (by simp (disch := omega) only [fX11_power_j99, fX11_power_j93, fX11_power_j36, fX11_power_j35, fX11_power_j31, fX11_power, hA, ↓yp_bdP hc, ↓h0, ↓yp_opP q1, ↓yp_opP q3, h, lg9, ↓yp_smL, ↓yp_smR, Nat.reduceAdd, Nat.reduceMul, Nat.reduceSub, Nat.zero_add, Nat.add_zero, yp_LT, yp_nA, yp_nM, yp_ltF, yp_ltT, yp_leF, yp_leT, yp_eqF, eq_self, yp_eqM, lt1, yp_sbN, yp_sb2N, ↓reduceIte, ↓yp_iP11, ↓yp_iP12, ↓yp_m0P]) (fun m hm => by simp (disch := omega) only [fX12_power_j56, fX12_power_j115, fX12_power_j109, fX12_power_j48, fX12_power_j47, fX12_power, hM, yp_m0e, yp_m_isF1 hm hI hf, ↓yp_opP q2, ↓yp_opP q4, ↓yp_wiP, h, yp_may21, Nat.reduceAdd, Nat.reduceMul, Nat.reduceSub, Nat.zero_add, Nat.add_zero, yp_LT, yp_nA, yp_nM, yp_ltF, yp_ltT, yp_leF, yp_leT, yp_eqF, eq_self, yp_eqM, lt1, yp_sbN, yp_sb2N, ↓reduceIte, ↓yp_iP11, ↓yp_iP12, ↓yp_m0P]) rfl yp_n2
  have L1 : loopN (fun st : Int32 × Int32 => fX11_power_b45 (yp_SH B) B (yp_N f) (yp_N c) (yp_N q) (yp_N k) st.1 st.2 mm) FU (yp_N 0, yp_N 0) = some (yp_N (yp_fo (yp_pwG (yp_sH A) f c q) 128 0)) := by
    refine yp_lpF (fun s a => (yp_N a, yp_N s)) (yp_pwG (yp_sH A) f c q) yp_N 128 0 (fun s z hs hz => ?_) (fun z hz => ?_) (by rw [yp_FUe]; omega) rfl
    · have e0 := yp_c_swing hR f c q s hf6 hcc
      by_cases e : yp_swV (yp_sH A) f c q s = yp_N 0
      · simp (disch := omega) only [fX11_power_b45, fX11_power_j93, hA, e0, e, yp_pwG, Nat.reduceAdd, Nat.reduceMul, Nat.reduceSub, Nat.zero_add, Nat.add_zero, yp_LT, yp_nA, yp_nM, yp_ltF, yp_ltT, yp_leF, yp_leT, yp_eqF, eq_self, yp_eqM, lt1, yp_sbN, yp_sb2N, ↓reduceIte, ↓yp_iP11, ↓yp_iP12, ↓yp_m0P]
      · have h6 := yp_pc6 s c (by omega) hcc (yp_sw_bt e)
        have e1 := yp_bcE s (by omega)
        have e2 := yp_fct_c (yp_pcn s) h6
        have e3 := yp_fct_c (6 - yp_pcn s) (by omega)
        simp (disch := omega) only [fX11_power_b45, fX11_power_j93, hA, e0, e, yp_pwG, e1, e2, yp_nS, e3, Nat.reduceAdd, Nat.reduceMul, Nat.reduceSub, Nat.zero_add, Nat.add_zero, yp_LT, yp_nA, yp_nM, yp_ltF, yp_ltT, yp_leF, yp_leT, yp_eqF, eq_self, yp_eqM, lt1, yp_sbN, yp_sb2N, ↓reduceIte, ↓yp_iP11, ↓yp_iP12, ↓yp_m0P]
    · simp (disch := omega) only [fX11_power_b45, Nat.reduceAdd, Nat.reduceMul, Nat.reduceSub, Nat.zero_add, Nat.add_zero, yp_LT, yp_nA, yp_nM, yp_ltF, yp_ltT, yp_leF, yp_leT, yp_eqF, eq_self, yp_eqM, lt1, yp_sbN, yp_sb2N, ↓reduceIte, ↓yp_iP11, ↓yp_iP12, ↓yp_m0P]
  have hb := yp_pw_b (yp_sH A) f c q hcc 128 (by omega)
  generalize hP : yp_fo (yp_pwG (yp_sH A) f c q) 128 0 = P at hb L1
  obtain ⟨v, v1, v2⟩ := yp_eu_eq (a0 := P) (b0 := 5040) (by rw [show (2 : Nat) ^ 48 = 281474976710656 by decide]; omega) (by decide) (by omega) k hk
  have e54 : (5040 : Int64) = yp_L6 5040 := rfl
  refine yp_PM_st hR hI (v := v.toInt32) ?_ (fun m hm hm0 => ?_)
  · rcases yp_z01 hk with rfl | rfl
    · simp (disch := omega) only [fX11_power_j99, fX11_power_j93, fX11_power_j36, fX11_power_j35, fX11_power_j31, fX11_power, hA, ↓yp_bdP hc, ↓hn, ↓yp_opP q1, ↓yp_opP q3, ↓yp_smL, ↓yp_smR, L1, yp_toL6, e54, v1, Nat.reduceAdd, Nat.reduceMul, Nat.reduceSub, Nat.zero_add, Nat.add_zero, yp_LT, yp_nA, yp_nM, yp_ltF, yp_ltT, yp_leF, yp_leT, yp_eqF, eq_self, yp_eqM, lt1, yp_sbN, yp_sb2N, ↓reduceIte, ↓yp_iP11, ↓yp_iP12, ↓yp_m0P]
    · simp (disch := omega) only [fX11_power_j99, fX11_power_j93, fX11_power_j36, fX11_power_j35, fX11_power_j31, fX11_power, hA, ↓yp_bdP hc, ↓hn, ↓yp_opP q1, ↓yp_opP q3, ↓yp_smL, ↓yp_smR, L1, yp_toL6, e54, v1, Nat.reduceAdd, Nat.reduceMul, Nat.reduceSub, Nat.zero_add, Nat.add_zero, yp_LT, yp_nA, yp_nM, yp_ltF, yp_ltT, yp_leF, yp_leT, yp_eqF, eq_self, yp_eqM, lt1, yp_sbN, yp_sb2N, ↓reduceIte, ↓yp_iP11, ↓yp_iP12, ↓yp_m0P]
  · have L2 : loopN (fun st : Int32 × Int32 => fX12_power_b64 (yp_SH B) (B + 517) (yp_N f) (yp_N c) (yp_N q) (yp_N k) st.1 st.2 (yp_m0 B m)) FU (yp_N 0, yp_N 0) = some (yp_N P) := by
      rw [← hP]
      refine yp_lpF (fun s a => (yp_N a, yp_N s)) (yp_pwG (yp_sH A) f c q) yp_N 128 0 (fun s z hs hz => ?_) (fun z hz => ?_) (by rw [yp_FUe]; omega) rfl
      · have e0 := yp_m_swing hm0.2.1 f c q s hf6 hcc hs
        by_cases e : yp_swV (yp_sH A) f c q s = yp_N 0
        · simp (disch := omega) only [fX12_power_b64, fX12_power_j109, hM, e0, e, yp_pwG, Nat.reduceAdd, Nat.reduceMul, Nat.reduceSub, Nat.zero_add, Nat.add_zero, yp_LT, yp_nA, yp_nM, yp_ltF, yp_ltT, yp_leF, yp_leT, yp_eqF, eq_self, yp_eqM, lt1, yp_sbN, yp_sb2N, ↓reduceIte, ↓yp_iP11, ↓yp_iP12, ↓yp_m0P]
        · have h6 := yp_pc6 s c (by omega) hcc (yp_sw_bt e)
          have e1 := yp_onE s (by omega)
          have e2 := yp_fct_m (yp_pcn s) (by omega)
          have e3 := yp_fct_m (6 - yp_pcn s) (by omega)
          simp (disch := omega) only [fX12_power_b64, fX12_power_j109, hM, e0, e, yp_pwG, e1, e2, yp_nS, e3, Nat.reduceAdd, Nat.reduceMul, Nat.reduceSub, Nat.zero_add, Nat.add_zero, yp_LT, yp_nA, yp_nM, yp_ltF, yp_ltT, yp_leF, yp_leT, yp_eqF, eq_self, yp_eqM, lt1, yp_sbN, yp_sb2N, ↓reduceIte, ↓yp_iP11, ↓yp_iP12, ↓yp_m0P]
      · simp (disch := omega) only [fX12_power_b64, Nat.reduceAdd, Nat.reduceMul, Nat.reduceSub, Nat.zero_add, Nat.add_zero, yp_LT, yp_nA, yp_nM, yp_ltF, yp_ltT, yp_leF, yp_leT, yp_eqF, eq_self, yp_eqM, lt1, yp_sbN, yp_sb2N, ↓reduceIte, ↓yp_iP11, ↓yp_iP12, ↓yp_m0P]
    have e7 : fX12_allOrders (yp_N 7) = some (yp_N 5040) := yp_fct_m 7 (by omega)
    simp (disch := omega) only [fX12_power_j56, fX12_power_j115, fX12_power_j109, fX12_power_j48, fX12_power_j47, fX12_power, hM, yp_m0e, yp_m_isF1 hm hI hf, ↓yp_opP q2, ↓yp_opP q4, ↓yp_wiP, yp_mayG, L2, e7, yp_toL6, v2, Nat.reduceAdd, Nat.reduceMul, Nat.reduceSub, Nat.zero_add, Nat.add_zero, yp_LT, yp_nA, yp_nM, yp_ltF, yp_ltT, yp_leF, yp_leT, yp_eqF, eq_self, yp_eqM, lt1, yp_sbN, yp_sb2N, ↓reduceIte, ↓yp_iP11, ↓yp_iP12, ↓yp_m0P]
def yp_PL (B : Nat) (f : Option ((Int64 ⊕ Nat) × Mem)) (g : Mem → Option (Int64 × Mem)) (mm : Mem) (A : yp_St) : Prop := (∃ v, f = some (.inl v, mm) ∧ ∀ m, yp_RMm B m A → g m = some (v, yp_m0 B m)) ∨ (f = some (.inr 1, up2 mm B 17 (yp_sC1 A + yp_N 1)) ∧ ∀ m, yp_RMm B m A → g m = some (0, yp_XE B m 1 (yp_N 1)))
set_option maxHeartbeats 1000000 in
theorem yp_p_green (hR : yp_RCc B mm A) (hI : yp_INV A) (x y z : Int32) : yp_PL B (fX11_green (yp_SH B) B x y z mm) (fun m => fX12_green (yp_SH B) (B + 517) x y z m) mm A := by
  have hA := yp_clsS B
  have hM := yp_mS B
  have hn := @yp_nd1 B mm
  have h0 := @yp_nd0 B mm A hR
  rcases yp_rng x 12 (by omega) with ⟨n, hn12, rfl⟩ | h | h
  rotate_left
  · exact .inr ⟨by simp (disch := omega) only [fX11_green_j77, fX11_green_j35, fX11_green_j34, fX11_green_j30, fX11_green, hA, ↓h0, h, ↓yp_smL, ↓yp_smR, Nat.reduceAdd, Nat.reduceMul, Nat.reduceSub, Nat.zero_add, Nat.add_zero, yp_LT, yp_nA, yp_nM, yp_ltF, yp_ltT, yp_leF, yp_leT, yp_eqF, eq_self, yp_eqM, lt1, yp_sbN, yp_sb2N, ↓reduceIte, ↓yp_iP11, ↓yp_iP12, ↓yp_m0P], fun m hm => by simp (disch := omega) only [fX12_green_j89, fX12_green_j40, fX12_green_j39, fX12_green, hM, yp_m0e, ↓yp_wiP, h, yp_may11, Nat.reduceAdd, Nat.reduceMul, Nat.reduceSub, Nat.zero_add, Nat.add_zero, yp_LT, yp_nA, yp_nM, yp_ltF, yp_ltT, yp_leF, yp_leT, yp_eqF, eq_self, yp_eqM, lt1, yp_sbN, yp_sb2N, ↓reduceIte, ↓yp_iP11, ↓yp_iP12, ↓yp_m0P]⟩
  · exact .inr ⟨by simp (disch := omega) only [fX11_green_j77, fX11_green_j35, fX11_green_j34, fX11_green_j30, fX11_green, hA, ↓h0, h, ↓yp_smL, ↓yp_smR, Nat.reduceAdd, Nat.reduceMul, Nat.reduceSub, Nat.zero_add, Nat.add_zero, yp_LT, yp_nA, yp_nM, yp_ltF, yp_ltT, yp_leF, yp_leT, yp_eqF, eq_self, yp_eqM, lt1, yp_sbN, yp_sb2N, ↓reduceIte, ↓yp_iP11, ↓yp_iP12, ↓yp_m0P], fun m hm => by simp (disch := omega) only [fX12_green_j89, fX12_green_j40, fX12_green_j39, fX12_green, hM, yp_m0e, ↓yp_wiP, h, yp_may11, Nat.reduceAdd, Nat.reduceMul, Nat.reduceSub, Nat.zero_add, Nat.add_zero, yp_LT, yp_nA, yp_nM, yp_ltF, yp_ltT, yp_leF, yp_leT, yp_eqF, eq_self, yp_eqM, lt1, yp_sbN, yp_sb2N, ↓reduceIte, ↓yp_iP11, ↓yp_iP12, ↓yp_m0P]⟩
  rcases yp_rng y 16 (by omega) with ⟨q, hq16, rfl⟩ | h | h
  rotate_left
  · exact .inr ⟨by simp (disch := omega) only [fX11_green_j77, fX11_green_j35, fX11_green_j34, fX11_green_j30, fX11_green, hA, ↓h0, h, ↓yp_smL, ↓yp_smR, Nat.reduceAdd, Nat.reduceMul, Nat.reduceSub, Nat.zero_add, Nat.add_zero, yp_LT, yp_nA, yp_nM, yp_ltF, yp_ltT, yp_leF, yp_leT, yp_eqF, eq_self, yp_eqM, lt1, yp_sbN, yp_sb2N, ↓reduceIte, ↓yp_iP11, ↓yp_iP12, ↓yp_m0P], fun m hm => by simp (disch := omega) only [fX12_green_j89, fX12_green_j40, fX12_green_j39, fX12_green, hM, yp_m0e, ↓yp_wiP, h, yp_may11, Nat.reduceAdd, Nat.reduceMul, Nat.reduceSub, Nat.zero_add, Nat.add_zero, yp_LT, yp_nA, yp_nM, yp_ltF, yp_ltT, yp_leF, yp_leT, yp_eqF, eq_self, yp_eqM, lt1, yp_sbN, yp_sb2N, ↓reduceIte, ↓yp_iP11, ↓yp_iP12, ↓yp_m0P]⟩
  · exact .inr ⟨by simp (disch := omega) only [fX11_green_j77, fX11_green_j35, fX11_green_j34, fX11_green_j30, fX11_green, hA, ↓h0, h, ↓yp_smL, ↓yp_smR, Nat.reduceAdd, Nat.reduceMul, Nat.reduceSub, Nat.zero_add, Nat.add_zero, yp_LT, yp_nA, yp_nM, yp_ltF, yp_ltT, yp_leF, yp_leT, yp_eqF, eq_self, yp_eqM, lt1, yp_sbN, yp_sb2N, ↓reduceIte, ↓yp_iP11, ↓yp_iP12, ↓yp_m0P], fun m hm => by simp (disch := omega) only [fX12_green_j89, fX12_green_j40, fX12_green_j39, fX12_green, hM, yp_m0e, ↓yp_wiP, h, yp_may11, Nat.reduceAdd, Nat.reduceMul, Nat.reduceSub, Nat.zero_add, Nat.add_zero, yp_LT, yp_nA, yp_nM, yp_ltF, yp_ltT, yp_leF, yp_leT, yp_eqF, eq_self, yp_eqM, lt1, yp_sbN, yp_sb2N, ↓reduceIte, ↓yp_iP11, ↓yp_iP12, ↓yp_m0P]⟩
  rcases yp_rng z 1 (by omega) with ⟨k, hk, rfl⟩ | h | h
  rotate_left
  · have h9 := yp_lt_ne h
    exact .inr ⟨by simp (disch := omega) only [fX11_green_j77, fX11_green_j35, fX11_green_j34, fX11_green_j30, fX11_green, hA, ↓h0, h9, ↓yp_smL, ↓yp_smR, Nat.reduceAdd, Nat.reduceMul, Nat.reduceSub, Nat.zero_add, Nat.add_zero, yp_LT, yp_nA, yp_nM, yp_ltF, yp_ltT, yp_leF, yp_leT, yp_eqF, eq_self, yp_eqM, lt1, yp_sbN, yp_sb2N, ↓reduceIte, ↓yp_iP11, ↓yp_iP12, ↓yp_m0P], fun m hm => by simp (disch := omega) only [fX12_green_j89, fX12_green_j40, fX12_green_j39, fX12_green, hM, yp_m0e, ↓yp_wiP, h, yp_may11, Nat.reduceAdd, Nat.reduceMul, Nat.reduceSub, Nat.zero_add, Nat.add_zero, yp_LT, yp_nA, yp_nM, yp_ltF, yp_ltT, yp_leF, yp_leT, yp_eqF, eq_self, yp_eqM, lt1, yp_sbN, yp_sb2N, ↓reduceIte, ↓yp_iP11, ↓yp_iP12, ↓yp_m0P]⟩
  · have h9 := yp_gt_ne h
    exact .inr ⟨by simp (disch := omega) only [fX11_green_j77, fX11_green_j35, fX11_green_j34, fX11_green_j30, fX11_green, hA, ↓h0, h9, ↓yp_smL, ↓yp_smR, Nat.reduceAdd, Nat.reduceMul, Nat.reduceSub, Nat.zero_add, Nat.add_zero, yp_LT, yp_nA, yp_nM, yp_ltF, yp_ltT, yp_leF, yp_leT, yp_eqF, eq_self, yp_eqM, lt1, yp_sbN, yp_sb2N, ↓reduceIte, ↓yp_iP11, ↓yp_iP12, ↓yp_m0P], fun m hm => by simp (disch := omega) only [fX12_green_j89, fX12_green_j40, fX12_green_j39, fX12_green, hM, yp_m0e, ↓yp_wiP, h, yp_may11, Nat.reduceAdd, Nat.reduceMul, Nat.reduceSub, Nat.zero_add, Nat.add_zero, yp_LT, yp_nA, yp_nM, yp_ltF, yp_ltT, yp_leF, yp_leT, yp_eqF, eq_self, yp_eqM, lt1, yp_sbN, yp_sb2N, ↓reduceIte, ↓yp_iP11, ↓yp_iP12, ↓yp_m0P]⟩
  have m6 : ∀ a b : Nat, yp_L6 a * yp_L6 b = yp_L6 (a * b) := fun a b => (Int64.ofNat_mul a b).symm
  have e16 : (16 : Int64) = yp_L6 16 := rfl
  have e1 : (1 : Int64) = yp_L6 1 := rfl
  have L1 : loopN (fun st : Int64 × Int64 × Int32 => fX11_green_b47 (yp_SH B) (yp_N n) (yp_N q) (yp_N k) st.1 st.2.1 st.2.2 mm) FU (yp_L6 1, yp_L6 1, yp_N 0) = some (yp_L6 (16 ^ n), yp_L6 ((16 - q) ^ n)) := by
    obtain ⟨r, h1, h2⟩ := yp_lpI (step := fun st : Int64 × Int64 × Int32 => fX11_green_b47 (yp_SH B) (yp_N n) (yp_N q) (yp_N k) st.1 st.2.1 st.2.2 mm) (fun i st => st = (yp_L6 (16 ^ i), yp_L6 ((16 - q) ^ i), yp_N i)) (fun r => r = (yp_L6 (16 ^ n), yp_L6 ((16 - q) ^ n))) n (fun i st hi hJ => by
      subst hJ
      by_cases e : i = n
      · subst e
        exact .inr ⟨_, by simp (disch := omega) only [fX11_green_b47, Nat.reduceAdd, Nat.reduceMul, Nat.reduceSub, Nat.zero_add, Nat.add_zero, yp_LT, yp_nA, yp_nM, yp_ltF, yp_ltT, yp_leF, yp_leT, yp_eqF, eq_self, yp_eqM, lt1, yp_sbN, yp_sb2N, ↓reduceIte, ↓yp_iP11, ↓yp_iP12, ↓yp_m0P], rfl⟩
      · exact .inl ⟨by omega, (yp_L6 (16 ^ i * 16), yp_L6 ((16 - q) ^ i * (16 - q)), yp_N (i + 1)), by simp (disch := omega) only [fX11_green_b47, yp_nS, yp_toL6, e16, m6, Nat.reduceAdd, Nat.reduceMul, Nat.reduceSub, Nat.zero_add, Nat.add_zero, yp_LT, yp_nA, yp_nM, yp_ltF, yp_ltT, yp_leF, yp_leT, yp_eqF, eq_self, yp_eqM, lt1, yp_sbN, yp_sb2N, ↓reduceIte, ↓yp_iP11, ↓yp_iP12, ↓yp_m0P], by rw [Nat.pow_succ, Nat.pow_succ]⟩) (show n < FU by rw [yp_FUe]; omega) (s0 := (yp_L6 1, yp_L6 1, yp_N 0)) rfl
    rw [h1, h2]
  have hp : (16 - q) ^ n ≤ 16 ^ n := Nat.pow_le_pow_left (by omega) n
  have hp2 : 16 ^ n ≤ 2 ^ 48 := by
    rw [show (16 : Nat) = 2 ^ 4 by decide, ← Nat.pow_mul]
    exact Nat.pow_le_pow_right (by omega) (by omega)
  have hp3 : 1 ≤ 16 ^ n := Nat.pow_pos (by omega)
  obtain ⟨v, v1, v2⟩ := yp_eu_eq (a0 := 16 ^ n - (16 - q) ^ n) (b0 := 16 ^ n) (by omega) hp2 hp3 k hk
  have es : yp_L6 (16 ^ n) - yp_L6 ((16 - q) ^ n) = yp_L6 (16 ^ n - (16 - q) ^ n) := (Int64.ofNat_sub _ _ hp).symm
  refine .inl ⟨v, ?_, fun m hm => ?_⟩
  · rcases yp_z01 hk with rfl | rfl
    · simp (disch := omega) only [fX11_green_j77, fX11_green_j35, fX11_green_j34, fX11_green_j30, fX11_green, hA, ↓hn, ↓yp_smL, ↓yp_smR, e1, L1, es, v1, Nat.reduceAdd, Nat.reduceMul, Nat.reduceSub, Nat.zero_add, Nat.add_zero, yp_LT, yp_nA, yp_nM, yp_ltF, yp_ltT, yp_leF, yp_leT, yp_eqF, eq_self, yp_eqM, lt1, yp_sbN, yp_sb2N, ↓reduceIte, ↓yp_iP11, ↓yp_iP12, ↓yp_m0P]
    · simp (disch := omega) only [fX11_green_j77, fX11_green_j35, fX11_green_j34, fX11_green_j30, fX11_green, hA, ↓hn, ↓yp_smL, ↓yp_smR, e1, L1, es, v1, Nat.reduceAdd, Nat.reduceMul, Nat.reduceSub, Nat.zero_add, Nat.add_zero, yp_LT, yp_nA, yp_nM, yp_ltF, yp_ltT, yp_leF, yp_leT, yp_eqF, eq_self, yp_eqM, lt1, yp_sbN, yp_sb2N, ↓reduceIte, ↓yp_iP11, ↓yp_iP12, ↓yp_m0P]
  · have L2 : loopN (fun st : Int64 × Int64 × Int32 => fX12_green_b59 (yp_SH B) (yp_N n) (yp_N q) (yp_N k) st.1 st.2.1 st.2.2 (yp_m0 B m)) FU (yp_L6 1, yp_L6 1, yp_N 0) = some (yp_L6 ((16 - q) ^ n), yp_L6 (16 ^ n)) := by
      obtain ⟨r, h1, h2⟩ := yp_lpI (step := fun st : Int64 × Int64 × Int32 => fX12_green_b59 (yp_SH B) (yp_N n) (yp_N q) (yp_N k) st.1 st.2.1 st.2.2 (yp_m0 B m)) (fun i st => st = (yp_L6 ((16 - q) ^ i), yp_L6 (16 ^ i), yp_N i)) (fun r => r = (yp_L6 ((16 - q) ^ n), yp_L6 (16 ^ n))) n (fun i st hi hJ => by
        subst hJ
        by_cases e : i = n
        · subst e
          exact .inr ⟨_, by simp (disch := omega) only [fX12_green_b59, Nat.reduceAdd, Nat.reduceMul, Nat.reduceSub, Nat.zero_add, Nat.add_zero, yp_LT, yp_nA, yp_nM, yp_ltF, yp_ltT, yp_leF, yp_leT, yp_eqF, eq_self, yp_eqM, lt1, yp_sbN, yp_sb2N, ↓reduceIte, ↓yp_iP11, ↓yp_iP12, ↓yp_m0P], rfl⟩
        · exact .inl ⟨by omega, (yp_L6 ((16 - q) ^ i * (16 - q)), yp_L6 (16 ^ i * 16), yp_N (i + 1)), by simp (disch := omega) only [fX12_green_b59, yp_nS, yp_toL6, e16, m6, Nat.reduceAdd, Nat.reduceMul, Nat.reduceSub, Nat.zero_add, Nat.add_zero, yp_LT, yp_nA, yp_nM, yp_ltF, yp_ltT, yp_leF, yp_leT, yp_eqF, eq_self, yp_eqM, lt1, yp_sbN, yp_sb2N, ↓reduceIte, ↓yp_iP11, ↓yp_iP12, ↓yp_m0P], by rw [Nat.pow_succ, Nat.pow_succ]⟩) (show n < FU by rw [yp_FUe]; omega) (s0 := (yp_L6 1, yp_L6 1, yp_N 0)) rfl
      rw [h1, h2]
    simp (disch := omega) only [fX12_green_j89, fX12_green_j40, fX12_green_j39, fX12_green, hM, yp_m0e, ↓yp_wiP, yp_mayG, e1, L2, es, v2, Nat.reduceAdd, Nat.reduceMul, Nat.reduceSub, Nat.zero_add, Nat.add_zero, yp_LT, yp_nA, yp_nM, yp_ltF, yp_ltT, yp_leF, yp_leT, yp_eqF, eq_self, yp_eqM, lt1, yp_sbN, yp_sb2N, ↓reduceIte, ↓yp_iP11, ↓yp_iP12, ↓yp_m0P]
end ASK7

section ASK5
variable {B : Nat} {mm : Mem} {A : yp_St}
def yp_pcn (s : Nat) : Nat := s % 2 + s / 2 % 2 + s / 4 % 2 + s / 8 % 2 + s / 16 % 2 + s / 32 % 2 + s / 64 % 2 + s / 128 % 2
set_option maxHeartbeats 1000000 in
theorem yp_pcn8 (s : Nat) : yp_pcn s ≤ 8 := by unfold yp_pcn; omega
set_option maxHeartbeats 1000000 in
theorem yp_bcE (s : Nat) (h : s < 256) : fJ6_bitCount_0f7a4 (yp_N s) = some (yp_N (yp_pcn s)) := by
  have h1 : ∀ s : Fin 256, fJ6_bitCount_0f7a4 (yp_N s.val) = some (yp_N (yp_pcn s.val)) := by decide +kernel
  exact h1 ⟨s, h⟩
set_option maxHeartbeats 1000000 in
theorem yp_onE (s : Nat) (h : s < 256) : fX12_ones (yp_N s) = some (yp_N (yp_pcn s)) := by
  have h1 : ∀ s : Fin 256, yp_sm (fun k => yp_bt (yp_N s.val) k) 8 = yp_N (yp_pcn s.val) := by decide +kernel
  rw [← h1 ⟨s, h⟩]
  simp (disch := omega) only [fX12_ones_j24, fX12_ones, Nat.reduceAdd, Nat.reduceMul, Nat.reduceSub, Nat.zero_add, Nat.add_zero, yp_LT, yp_nA, yp_nM, yp_ltF, yp_ltT, yp_leF, yp_leT, yp_eqF, eq_self, yp_eqM, lt1, yp_sbN, yp_sb2N, ↓reduceIte, ↓yp_iP11, ↓yp_iP12, ↓yp_m0P]
  refine Eq.trans (yp_lpB (fun k a => (a, yp_N k)) (fun k a => a + yp_bt (yp_N s) k) (id) (8) (yp_N 0) (by rw [yp_FUe]; omega) rfl (fun k z hk hz => ?_) (fun z hz => ?_)) ?_
  · simp (disch := omega) only [fX12_ones_b4, yp_bt, Nat.reduceAdd, Nat.reduceMul, Nat.reduceSub, Nat.zero_add, Nat.add_zero, yp_LT, yp_nA, yp_nM, yp_ltF, yp_ltT, yp_leF, yp_leT, yp_eqF, eq_self, yp_eqM, lt1, yp_sbN, yp_sb2N, ↓reduceIte, ↓yp_iP11, ↓yp_iP12, ↓yp_m0P]
  · simp (disch := omega) only [fX12_ones_b4, Nat.reduceAdd, Nat.reduceMul, Nat.reduceSub, Nat.zero_add, Nat.add_zero, yp_LT, yp_nA, yp_nM, yp_ltF, yp_ltT, yp_leF, yp_leT, yp_eqF, eq_self, yp_eqM, lt1, yp_sbN, yp_sb2N, ↓reduceIte, ↓yp_iP11, ↓yp_iP12, ↓yp_m0P]
    rfl
  · simp only [id, yp_sm]
set_option maxHeartbeats 1000000 in
theorem yp_bwA (s : Nat) (h3 : 3 ≤ s) (h : s < 64) : ((yp_N s &&& (yp_N s - yp_N 1)) = yp_N 0) = ¬ 2 ≤ yp_pcn s := by
  have h1 : ∀ s : Fin 64, 3 ≤ s.val → (((yp_N s.val &&& (yp_N s.val - yp_N 1)) = yp_N 0) ↔ ¬ 2 ≤ yp_pcn s.val) := by decide +kernel
  exact propext (h1 ⟨s, h⟩ h3)
def yp_spd (H : Nat → Int32) (t : Nat) : Int32 := (yp_SP H (yp_N t)).1 - (yp_SP H (yp_N t)).2
set_option maxHeartbeats 1000000 in
theorem yp_SP_b {Q : yp_EnvT} {H : Nat → Int32} (hH : yp_HI Q H) (s : Int32) : ∀ n, n ≤ 7 → (0 ≤ (yp_fo (fun c (a : Int32 × Int32) => (mxI a.1 (yp_col H s c 6), mnI a.2 (yp_col H s c 6))) n (yp_N 0, yp_N 1680)).1.toInt ∧ (yp_fo (fun c (a : Int32 × Int32) => (mxI a.1 (yp_col H s c 6), mnI a.2 (yp_col H s c 6))) n (yp_N 0, yp_N 1680)).1.toInt ≤ 1680) ∧ (0 ≤ (yp_fo (fun c (a : Int32 × Int32) => (mxI a.1 (yp_col H s c 6), mnI a.2 (yp_col H s c 6))) n (yp_N 0, yp_N 1680)).2.toInt ∧ (yp_fo (fun c (a : Int32 × Int32) => (mxI a.1 (yp_col H s c 6), mnI a.2 (yp_col H s c 6))) n (yp_N 0, yp_N 1680)).2.toInt ≤ 1680) := by
  intro n
  induction n with
  | zero =>
    intro _
    rw [yp_fo_0]
    show (0 ≤ (yp_N 0).toInt ∧ (yp_N 0).toInt ≤ 1680) ∧ (0 ≤ (yp_N 1680).toInt ∧ (yp_N 1680).toInt ≤ 1680)
    rw [yp_ti0, yp_tiN (by omega)]
    omega
  | succ n ih =>
    intro hn
    have h1 := ih (by omega)
    rw [yp_fo_s]
    generalize yp_fo (fun c (a : Int32 × Int32) => (mxI a.1 (yp_col H s c 6), mnI a.2 (yp_col H s c 6))) n (yp_N 0, yp_N 1680) = x at h1
    have h2 := hH.col s n (by omega) 6 (by omega)
    simp only [yp_mxTi, yp_mnTi]
    constructor
    · split <;> omega
    · split <;> omega
set_option maxHeartbeats 1000000 in
theorem yp_spd_b {Q : yp_EnvT} {H : Nat → Int32} (hH : yp_HI Q H) (t : Nat) : -1680 ≤ (yp_spd H t).toInt ∧ (yp_spd H t).toInt ≤ 1680 := by
  have h := yp_SP_b hH (yp_N t) 7 (by omega)
  unfold yp_spd yp_SP
  rw [yp_ti_sub (by omega) (by omega)]
  omega
set_option maxHeartbeats 1000000 in
theorem yp_spd_lt {Q : yp_EnvT} {H : Nat → Int32} (hH : yp_HI Q H) (t b : Nat) : (yp_spd H t - yp_spd H b < yp_N 0) = (yp_spd H t < yp_spd H b) := by
  have h1 := yp_spd_b hH t
  have h2 := yp_spd_b hH b
  apply propext
  rw [yp_ltTi, yp_ltTi, yp_ti0, yp_ti_sub (by omega) (by omega)]
  omega
set_option maxHeartbeats 1000000 in
theorem yp_spd_eq {H : Nat → Int32} (t b : Nat) : (yp_spd H t - yp_spd H b = yp_N 0) = (yp_spd H t = yp_spd H b) := propext yp_sub0
def yp_bwG (H : Nat → Int32) (k : Nat) (s : Option Nat) : Option Nat := if 2 ≤ yp_pcn (3 + k) then (match s with
  | none => some (3 + k)
  | some b => if yp_spd H (3 + k) < yp_spd H b then some (3 + k) else if yp_spd H (3 + k) = yp_spd H b then (if yp_GV H (yp_N (3 + k)) (yp_N 1680) ≤ yp_GV H (yp_N b) (yp_N 1680) then some b else some (3 + k)) else some b) else s
set_option maxHeartbeats 1000000 in
theorem yp_bw_lt (H : Nat → Int32) : ∀ n b, yp_fo (yp_bwG H) n none = some b → b < 3 + n := by
  intro n
  induction n with
  | zero => intro b h; cases h
  | succ n ih =>
    intro b h
    rw [yp_fo_s] at h
    generalize hz : yp_fo (yp_bwG H) n none = z at h ih
    unfold yp_bwG at h
    split at h
    · cases z with
      | none => simp only at h; cases h; omega
      | some c =>
        have h1 := ih c rfl
        simp only at h
        split at h
        · cases h; omega
        · split at h
          · split at h
            · cases h; omega
            · cases h; omega
          · cases h; omega
    · have := ih b h; omega
def yp_oP (H : Nat → Int32) (s : Option Nat) : Int32 := match s with
  | none => -yp_N 1
  | some b => yp_spd H b
def yp_oM (H : Nat → Int32) (s : Option Nat) : Int32 := match s with
  | none => yp_N 0
  | some b => yp_GV H (yp_N b) (yp_N 1680)
set_option maxHeartbeats 1000000 in
theorem yp_p_bow (hR : yp_RCc B mm A) (hI : yp_INV A) (x : Int32) : yp_PM B (fX11_bow (yp_SH B) B x mm) (fun m => fX12_bow (yp_SH B) (B + 517) x m) hcI mm A := by
  have hA := yp_clsS B
  have hX := yp_HSx (yp_hs33 B)
  have hM := yp_mS B
  have hn := @yp_nd1 B mm
  have h0 := @yp_nd0 B mm A hR
  have hq := hI.1.1
  have c1 := hR.1.1
  have hp : 2 ^ yp_qf (yp_sQ A) ≤ 2 ^ 6 := Nat.pow_le_pow_right (by omega) hq
  have h1s := yp_sh1 (yp_qf (yp_sQ A)) (by omega)
  rcases yp_rng x 1 (by omega) with ⟨k, hk, rfl⟩ | h | h
  rotate_left
  · exact yp_PM_e1 hR hI (by simp (disch := omega) only [fX11_bow_j125, fX11_bow_j116, fX11_bow_j110, fX11_bow_j100, fX11_bow_j15, fX11_bow_j10, fX11_bow, hA, ↓h0, yp_lt_ne h, ↓yp_smL, ↓yp_smR, Nat.reduceAdd, Nat.reduceMul, Nat.reduceSub, Nat.zero_add, Nat.add_zero, yp_LT, yp_nA, yp_nM, yp_ltF, yp_ltT, yp_leF, yp_leT, yp_eqF, eq_self, yp_eqM, lt1, yp_sbN, yp_sb2N, ↓reduceIte, ↓yp_iP11, ↓yp_iP12, ↓yp_m0P]) (fun m hm => by simp (disch := omega) only [fX12_bow_j122, fX12_bow_j113, fX12_bow_j104, fX12_bow_j98, fX12_bow_j96, fX12_bow_j71, fX12_bow, hM, yp_m0e, ↓yp_wiP, h, yp_may11, Nat.reduceAdd, Nat.reduceMul, Nat.reduceSub, Nat.zero_add, Nat.add_zero, yp_LT, yp_nA, yp_nM, yp_ltF, yp_ltT, yp_leF, yp_leT, yp_eqF, eq_self, yp_eqM, lt1, yp_sbN, yp_sb2N, ↓reduceIte, ↓yp_iP11, ↓yp_iP12, ↓yp_m0P]) rfl yp_n1
  · exact yp_PM_e1 hR hI (by simp (disch := omega) only [fX11_bow_j125, fX11_bow_j116, fX11_bow_j110, fX11_bow_j100, fX11_bow_j15, fX11_bow_j10, fX11_bow, hA, ↓h0, yp_gt_ne h, ↓yp_smL, ↓yp_smR, Nat.reduceAdd, Nat.reduceMul, Nat.reduceSub, Nat.zero_add, Nat.add_zero, yp_LT, yp_nA, yp_nM, yp_ltF, yp_ltT, yp_leF, yp_leT, yp_eqF, eq_self, yp_eqM, lt1, yp_sbN, yp_sb2N, ↓reduceIte, ↓yp_iP11, ↓yp_iP12, ↓yp_m0P]) (fun m hm => by simp (disch := omega) only [fX12_bow_j122, fX12_bow_j113, fX12_bow_j104, fX12_bow_j98, fX12_bow_j96, fX12_bow_j71, fX12_bow, hM, yp_m0e, ↓yp_wiP, h, yp_may11, Nat.reduceAdd, Nat.reduceMul, Nat.reduceSub, Nat.zero_add, Nat.add_zero, yp_LT, yp_nA, yp_nM, yp_ltF, yp_ltT, yp_leF, yp_leT, yp_eqF, eq_self, yp_eqM, lt1, yp_sbN, yp_sb2N, ↓reduceIte, ↓yp_iP11, ↓yp_iP12, ↓yp_m0P]) rfl yp_n1
  obtain ⟨cn, hcn⟩ : ∃ c, c = 2 ^ yp_qf (yp_sQ A) - 3 := ⟨_, rfl⟩
  have L1 : ∀ x1, loopN (fun st : Int32 × Int32 × Int32 × Int32 => fX11_bow_b28 (yp_SH B) B x1 st.1 st.2.1 st.2.2.1 st.2.2.2 mm) FU (-yp_N 1, -yp_N 1, yp_N 0, yp_N 3) = some (yp_oN (yp_fo (yp_bwG (yp_sH A)) cn none), yp_oP (yp_sH A) (yp_fo (yp_bwG (yp_sH A)) cn none)) := by
    intro x1
    refine yp_lpF (fun k s => (yp_oN s, yp_oP (yp_sH A) s, yp_oM (yp_sH A) s, yp_N (3 + k))) (yp_bwG (yp_sH A)) (fun s => (yp_oN s, yp_oP (yp_sH A) s)) cn none (fun k z hk hz => ?_) (fun z hz => ?_) (by rw [yp_FUe]; omega) rfl
    · have e1 := yp_h_spread (yp_hs33 B) hR.2.1 (yp_N (3 + k))
      have e2 := yp_h_much (yp_hs33 B) hR.2.1 (yp_N (3 + k))
      have e3 := yp_bcE (3 + k) (by omega)
      have e4 := yp_pcn8 (3 + k)
      have e5 : (yp_SP (yp_sH A) (yp_N (3 + k))).1 - (yp_SP (yp_sH A) (yp_N (3 + k))).2 = yp_spd (yp_sH A) (3 + k) := rfl
      rw [e5] at e1
      have e6 : 3 + k + 1 = 3 + (k + 1) := by omega
      by_cases hb2 : 2 ≤ yp_pcn (3 + k)
      · cases z with
        | none =>
          simp (disch := omega) only [fX11_bow_b28, fX11_bow_j100, fX11_bow_j110, hA, c1, h1s, e1, e2, e3, yp_oN, yp_oP, yp_oM, yp_bwG, hb2, e6, Nat.reduceAdd, Nat.reduceMul, Nat.reduceSub, Nat.zero_add, Nat.add_zero, yp_LT, yp_nA, yp_nM, yp_ltF, yp_ltT, yp_leF, yp_leT, yp_eqF, eq_self, yp_eqM, lt1, yp_sbN, yp_sb2N, ↓reduceIte, ↓yp_iP11, ↓yp_iP12, ↓yp_m0P]
        | some b =>
          have hb := yp_bw_lt (yp_sH A) k b hz.symm
          simp (disch := omega) only [fX11_bow_b28, fX11_bow_j100, fX11_bow_j110, hA, c1, h1s, e1, e2, e3, yp_oN, yp_oP, yp_oM, yp_bwG, hb2, e6, Nat.reduceAdd, Nat.reduceMul, Nat.reduceSub, Nat.zero_add, Nat.add_zero, yp_LT, yp_nA, yp_nM, yp_ltF, yp_ltT, yp_leF, yp_leT, yp_eqF, eq_self, yp_eqM, lt1, yp_sbN, yp_sb2N, ↓reduceIte, ↓yp_iP11, ↓yp_iP12, ↓yp_m0P]
          by_cases q1 : yp_spd (yp_sH A) (3 + k) < yp_spd (yp_sH A) b
          · simp only [q1, if_true]
          · simp only [q1, if_false]
            by_cases q2 : yp_spd (yp_sH A) (3 + k) = yp_spd (yp_sH A) b
            · simp only [q2, if_true]
              by_cases q3 : yp_GV (yp_sH A) (yp_N (3 + k)) (yp_N 1680) ≤ yp_GV (yp_sH A) (yp_N b) (yp_N 1680)
              · simp only [q3, if_true, q2]
              · simp only [q3, if_false, q2]
            · simp only [q2, if_false]
      · simp (disch := omega) only [fX11_bow_b28, fX11_bow_j100, fX11_bow_j110, hA, c1, h1s, e3, yp_bwG, hb2, e6, Nat.reduceAdd, Nat.reduceMul, Nat.reduceSub, Nat.zero_add, Nat.add_zero, yp_LT, yp_nA, yp_nM, yp_ltF, yp_ltT, yp_leF, yp_leT, yp_eqF, eq_self, yp_eqM, lt1, yp_sbN, yp_sb2N, ↓reduceIte, ↓yp_iP11, ↓yp_iP12, ↓yp_m0P]
    · simp (disch := omega) only [fX11_bow_b28, hA, c1, h1s, Nat.reduceAdd, Nat.reduceMul, Nat.reduceSub, Nat.zero_add, Nat.add_zero, yp_LT, yp_nA, yp_nM, yp_ltF, yp_ltT, yp_leF, yp_leT, yp_eqF, eq_self, yp_eqM, lt1, yp_sbN, yp_sb2N, ↓reduceIte, ↓yp_iP11, ↓yp_iP12, ↓yp_m0P]
  have L2 : ∀ (m2 : Mem) x1, yp_HM m2 (B + 533) (yp_sH A) → yp_CLm B m2 (yp_sQ A) → loopN (fun st : Int32 × Int32 => fX12_bow_b30 (yp_SH B) (B + 517) x1 st.1 st.2 m2) FU (-yp_N 1, yp_N 3) = some (yp_oN (yp_fo (yp_bwG (yp_sH A)) cn none)) := by
    intro m2 x1 a2 a3
    have c2 := a3.1
    have spE : ∀ t, t < 2 ^ yp_qf (yp_sQ A) → fX12_spreadOf (yp_SH B) (B + 517) (yp_N t) m2 = some (yp_spd (yp_sH A) t) := fun t ht => by
      rw [yp_m_spread a2 c2 hq, ← (yp_sp_eq hI.2.1 hq ht).1, ← (yp_sp_eq hI.2.1 hq ht).2]
      rfl
    have wE : ∀ t, t < 2 ^ yp_qf (yp_sQ A) → fX12_withinAll (yp_SH B) (B + 517) (yp_N t) m2 = some (yp_GV (yp_sH A) (yp_N t) (yp_N 1680)) := fun t ht => by
      rw [yp_m_wAll a2 c2 hq, ← yp_gv_all hI.2.1 hq ht]
    refine yp_lpF (fun k s => (yp_oN s, yp_N (3 + k))) (yp_bwG (yp_sH A)) yp_oN cn none (fun k z hk hz => ?_) (fun z hz => ?_) (by rw [yp_FUe]; omega) rfl
    · have e1 := spE (3 + k) (by omega)
      have e2 := wE (3 + k) (by omega)
      have e3 := yp_bwA (3 + k) (by omega) (by omega)
      have e6 : 3 + k + 1 = 3 + (k + 1) := by omega
      by_cases hb2 : 2 ≤ yp_pcn (3 + k)
      · have e7 : ((yp_N (3 + k) &&& (yp_N (3 + k) - yp_N 1)) = yp_N 0) = False := by rw [e3]; exact eq_false (fun h => h hb2)
        cases z with
        | none =>
          simp (disch := omega) only [fX12_bow_b30, fX12_bow_j71, fX12_bow_j96, fX12_bow_j98, hM, c2, h1s, e7, yp_oN, yp_bwG, hb2, e6, (show (-yp_N 1 < yp_N 0) = True from eq_true (by decide)), Nat.reduceAdd, Nat.reduceMul, Nat.reduceSub, Nat.zero_add, Nat.add_zero, yp_LT, yp_nA, yp_nM, yp_ltF, yp_ltT, yp_leF, yp_leT, yp_eqF, eq_self, yp_eqM, lt1, yp_sbN, yp_sb2N, ↓reduceIte, ↓yp_iP11, ↓yp_iP12, ↓yp_m0P]
        | some b =>
          have hb := yp_bw_lt (yp_sH A) k b hz.symm
          have e8 := spE b (by omega)
          have e9 := wE b (by omega)
          simp (disch := omega) only [fX12_bow_b30, fX12_bow_j71, fX12_bow_j96, fX12_bow_j98, hM, c2, h1s, e7, e1, e2, e8, e9, yp_oN, yp_bwG, hb2, e6, yp_spd_lt hI.2.1, yp_spd_eq, Nat.reduceAdd, Nat.reduceMul, Nat.reduceSub, Nat.zero_add, Nat.add_zero, yp_LT, yp_nA, yp_nM, yp_ltF, yp_ltT, yp_leF, yp_leT, yp_eqF, eq_self, yp_eqM, lt1, yp_sbN, yp_sb2N, ↓reduceIte, ↓yp_iP11, ↓yp_iP12, ↓yp_m0P]
          by_cases q1 : yp_spd (yp_sH A) (3 + k) < yp_spd (yp_sH A) b
          · simp only [q1, if_true]
          · simp only [q1, if_false]
            by_cases q2 : yp_spd (yp_sH A) (3 + k) = yp_spd (yp_sH A) b
            · simp only [q2, if_true]
              by_cases q3 : yp_GV (yp_sH A) (yp_N (3 + k)) (yp_N 1680) ≤ yp_GV (yp_sH A) (yp_N b) (yp_N 1680)
              · simp only [q3, if_true]
              · simp only [q3, if_false]
            · simp only [q2, if_false]
      · have e7 : ((yp_N (3 + k) &&& (yp_N (3 + k) - yp_N 1)) = yp_N 0) = True := by rw [e3]; exact eq_true hb2
        simp (disch := omega) only [fX12_bow_b30, fX12_bow_j71, fX12_bow_j96, fX12_bow_j98, hM, c2, h1s, e7, yp_bwG, hb2, e6, Nat.reduceAdd, Nat.reduceMul, Nat.reduceSub, Nat.zero_add, Nat.add_zero, yp_LT, yp_nA, yp_nM, yp_ltF, yp_ltT, yp_leF, yp_leT, yp_eqF, eq_self, yp_eqM, lt1, yp_sbN, yp_sb2N, ↓reduceIte, ↓yp_iP11, ↓yp_iP12, ↓yp_m0P]
    · simp (disch := omega) only [fX12_bow_b30, hM, c2, h1s, Nat.reduceAdd, Nat.reduceMul, Nat.reduceSub, Nat.zero_add, Nat.add_zero, yp_LT, yp_nA, yp_nM, yp_ltF, yp_ltT, yp_leF, yp_leT, yp_eqF, eq_self, yp_eqM, lt1, yp_sbN, yp_sb2N, ↓reduceIte, ↓yp_iP11, ↓yp_iP12, ↓yp_m0P]
  rcases yp_z01 hk with rfl | rfl
  · refine yp_PM_tk hR hI (v := yp_oN (yp_fo (yp_bwG (yp_sH A)) cn none)) ?_ (fun m m2 hm a1 a2 a3 a4 => ?_)
    · simp (disch := omega) only [fX11_bow_j125, fX11_bow_j116, fX11_bow_j110, fX11_bow_j100, fX11_bow_j15, fX11_bow_j10, fX11_bow, hA, ↓hn, ↓yp_smL, ↓yp_smR, L1, Nat.reduceAdd, Nat.reduceMul, Nat.reduceSub, Nat.zero_add, Nat.add_zero, yp_LT, yp_nA, yp_nM, yp_ltF, yp_ltT, yp_leF, yp_leT, yp_eqF, eq_self, yp_eqM, lt1, yp_sbN, yp_sb2N, ↓reduceIte, ↓yp_iP11, ↓yp_iP12, ↓yp_m0P]
    · simp (disch := omega) only [fX12_bow_j122, fX12_bow_j113, fX12_bow_j104, fX12_bow_j98, fX12_bow_j96, fX12_bow_j71, fX12_bow, hM, yp_m0e, ↓yp_wiP, yp_mayG, a1, L2 m2 (yp_N 0) a2 a3, Nat.reduceAdd, Nat.reduceMul, Nat.reduceSub, Nat.zero_add, Nat.add_zero, yp_LT, yp_nA, yp_nM, yp_ltF, yp_ltT, yp_leF, yp_leT, yp_eqF, eq_self, yp_eqM, lt1, yp_sbN, yp_sb2N, ↓reduceIte, ↓yp_iP11, ↓yp_iP12, ↓yp_m0P]
  · refine yp_PM_tk hR hI (v := yp_oP (yp_sH A) (yp_fo (yp_bwG (yp_sH A)) cn none)) ?_ (fun m m2 hm a1 a2 a3 a4 => ?_)
    · simp (disch := omega) only [fX11_bow_j125, fX11_bow_j116, fX11_bow_j110, fX11_bow_j100, fX11_bow_j15, fX11_bow_j10, fX11_bow, hA, ↓hn, ↓yp_smL, ↓yp_smR, L1, Nat.reduceAdd, Nat.reduceMul, Nat.reduceSub, Nat.zero_add, Nat.add_zero, yp_LT, yp_nA, yp_nM, yp_ltF, yp_ltT, yp_leF, yp_leT, yp_eqF, eq_self, yp_eqM, lt1, yp_sbN, yp_sb2N, ↓reduceIte, ↓yp_iP11, ↓yp_iP12, ↓yp_m0P]
    · have e0 := L2 m2 (yp_N 1) a2 a3
      cases hz : yp_fo (yp_bwG (yp_sH A)) cn none with
      | none =>
        rw [hz] at e0
        simp only [yp_oN] at e0
        simp (disch := omega) only [fX12_bow_j122, fX12_bow_j113, fX12_bow_j104, fX12_bow_j98, fX12_bow_j96, fX12_bow_j71, fX12_bow, hM, yp_m0e, ↓yp_wiP, yp_mayG, a1, e0, yp_oP, Nat.reduceAdd, Nat.reduceMul, Nat.reduceSub, Nat.zero_add, Nat.add_zero, yp_LT, yp_nA, yp_nM, yp_ltF, yp_ltT, yp_leF, yp_leT, yp_eqF, eq_self, yp_eqM, lt1, yp_sbN, yp_sb2N, ↓reduceIte, ↓yp_iP11, ↓yp_iP12, ↓yp_m0P]
      | some b =>
        have hb := yp_bw_lt (yp_sH A) _ b hz
        have hb2 : b < 2 ^ yp_qf (yp_sQ A) := by
          by_cases e : 3 ≤ 2 ^ yp_qf (yp_sQ A)
          · omega
          · have : cn = 0 := by omega
            subst this
            cases hz
        rw [hz] at e0
        simp only [yp_oN] at e0
        have e8 : fX12_spreadOf (yp_SH B) (B + 517) (yp_N b) m2 = some (yp_spd (yp_sH A) b) := by
          rw [yp_m_spread a2 a3.1 hq, ← (yp_sp_eq hI.2.1 hq hb2).1, ← (yp_sp_eq hI.2.1 hq hb2).2]
          rfl
        simp (disch := omega) only [fX12_bow_j122, fX12_bow_j113, fX12_bow_j104, fX12_bow_j98, fX12_bow_j96, fX12_bow_j71, fX12_bow, hM, yp_m0e, ↓yp_wiP, yp_mayG, a1, e0, yp_oP, e8, Nat.reduceAdd, Nat.reduceMul, Nat.reduceSub, Nat.zero_add, Nat.add_zero, yp_LT, yp_nA, yp_nM, yp_ltF, yp_ltT, yp_leF, yp_leT, yp_eqF, eq_self, yp_eqM, lt1, yp_sbN, yp_sb2N, ↓reduceIte, ↓yp_iP11, ↓yp_iP12, ↓yp_m0P]
def yp_thG (Q : yp_EnvT) (H : Nat → Int32) (f c s g : Nat) (a : Option Int32) : Option Int32 := match a with
  | none => none
  | some v => if yp_bt (yp_N s) g = yp_N 1 then (if yp_qk Q g = yp_N 0 then some (v + yp_TV Q H f c g (H (f * 7 + c))) else none) else some v
set_option maxHeartbeats 1000000 in
theorem yp_th_none (Q : yp_EnvT) (H : Nat → Int32) (f c s : Nat) {k n : Nat} (h : k ≤ n) (hk : yp_fo (yp_thG Q H f c s) k (some (yp_N 0)) = none) : yp_fo (yp_thG Q H f c s) n (some (yp_N 0)) = none := by
  induction n with
  | zero =>
    have : k = 0 := by omega
    rw [this] at hk; exact hk
  | succ n ih =>
    by_cases e : k = n + 1
    · rw [← e]; exact hk
    · rw [yp_fo_s, ih (by omega)]
      rfl
def yp_thV (Q : yp_EnvT) (H : Nat → Int32) (f c s : Nat) : Option Int32 := yp_fo (yp_thG Q H f c s) (yp_qg Q) (some (yp_N 0))
def yp_trG (Q : yp_EnvT) (H : Nat → Int32) (f c p k : Nat) (s : Option Nat) : Option Nat := if yp_thV Q H f c k = some (yp_N p) then (match s with
  | none => some k
  | some b => if yp_pcn b ≤ yp_pcn k then some b else some k) else s
set_option maxHeartbeats 1000000 in
theorem yp_tr_g (Q : yp_EnvT) (H : Nat → Int32) (f c p : Nat) : ∀ k s b, yp_trG Q H f c p k s = some b → s = some b ∨ b = k := by
  intro k s b h
  unfold yp_trG at h
  split at h
  · cases s with
    | none => right; simp only at h; cases h; rfl
    | some c =>
      simp only at h
      split at h
      · left; exact h
      · right; cases h; rfl
  · left; exact h
set_option maxHeartbeats 1000000 in
theorem yp_c_allTurns {m : Mem} {Q : yp_EnvT} {H : Nat → Int32} (hE : yp_EV Q) (hC : yp_CLc B m Q) (hH : yp_HC m (B + 33) H) (f c : Nat) (hf : f < 6) (hc : c < 7) : ∃ m', fX5_turnByAllGlasses (yp_SH B) (B + 23) (B + 33) (yp_N f) (yp_N c) m = some m' ∧ (∀ g, g < yp_qg Q → m' (B + 26) g = yp_TV Q H f c g (H (f * 7 + c))) ∧ yp_Fr (fun a _ => a = B + 13 ∨ a = B + 24 ∨ a = B + 26) m m' := by
  have hO := yp_optS B
  have hX := yp_HSx (yp_hs33 B)
  have hq := hE.2.1
  obtain ⟨m', h1, h2, h3⟩ := yp_lpI (step := fun st : Int32 × Mem => fX5_turnByAllGlasses_b3 (yp_SH B) (B + 23) (B + 33) (yp_N f) (yp_N c) st.1 st.2) (fun k st => ∃ m1, st = (yp_N k, m1) ∧ (∀ g, g < k → m1 (B + 26) g = yp_TV Q H f c g (H (f * 7 + c))) ∧ yp_Fr (fun a _ => a = B + 13 ∨ a = B + 24 ∨ a = B + 26) m m1) (fun m1 => (∀ g, g < yp_qg Q → m1 (B + 26) g = yp_TV Q H f c g (H (f * 7 + c))) ∧ yp_Fr (fun a _ => a = B + 13 ∨ a = B + 24 ∨ a = B + 26) m m1) (yp_qg Q) (fun k st hk hJ => by
    obtain ⟨m1, rfl, hs, hF⟩ := hJ
    have c1 : m1 (B + 3) 4 = yp_N (yp_qg Q) := (hF _ _ (by omega)).trans hC.2.1
    by_cases e : k = yp_qg Q
    · subst e
      exact .inr ⟨m1, by simp (disch := omega) only [fX5_turnByAllGlasses_b3, hO, c1, Nat.reduceAdd, Nat.reduceMul, Nat.reduceSub, Nat.zero_add, Nat.add_zero, yp_LT, yp_nA, yp_nM, yp_ltF, yp_ltT, yp_leF, yp_leT, yp_eqF, eq_self, yp_eqM, lt1, yp_sbN, yp_sb2N, ↓reduceIte, ↓yp_iP11, ↓yp_iP12, ↓yp_m0P], hs, hF⟩
    · have hC1 : yp_CLc B m1 Q := hC.fr (fun a j h => hF a j (by omega))
      have hH1 : yp_HC m1 (B + 33) H := hH.same (fun a j h1 h2 => hF a j (by omega))
      have e1 := hH1.1 (f * 7 + c) (by omega)
      obtain ⟨m2, t1, t2⟩ := yp_c_turn hE hC1 (yp_hs33 B) hH1 (by omega) f c k (H (f * 7 + c)) hf hc (by omega)
      refine .inl ⟨by omega, (yp_N (k + 1), up2 m2 (B + 26) k (yp_TV Q H f c k (H (f * 7 + c)))), ?_, _, rfl, fun g hg => ?_, ?_⟩
      · simp (disch := omega) only [fX5_turnByAllGlasses_b3, hO, hX, c1, e1, t1, Nat.reduceAdd, Nat.reduceMul, Nat.reduceSub, Nat.zero_add, Nat.add_zero, yp_LT, yp_nA, yp_nM, yp_ltF, yp_ltT, yp_leF, yp_leT, yp_eqF, eq_self, yp_eqM, lt1, yp_sbN, yp_sb2N, ↓reduceIte, ↓yp_iP11, ↓yp_iP12, ↓yp_m0P]
      · by_cases e2 : g = k
        · rw [e2]; exact yp_up2_s _ _ _ _
        · rw [yp_up2_n _ _ (by omega), t2 _ _ (by unfold yp_TO; omega)]
          exact hs g (by omega)
      · refine yp_Fr.up (hF.tr (t2.mono (fun a j h => ?_))) (.inr (.inr rfl))
        unfold yp_TO at h
        omega) (show yp_qg Q < FU by rw [yp_FUe]; omega) (s0 := (yp_N 0, m)) ⟨m, rfl, fun g hg => absurd hg (Nat.not_lt_zero g), yp_Fr.rf⟩
  exact ⟨m', by simp (disch := omega) only [fX5_turnByAllGlasses_j48, fX5_turnByAllGlasses, h1, Nat.reduceAdd, Nat.reduceMul, Nat.reduceSub, Nat.zero_add, Nat.add_zero, yp_LT, yp_nA, yp_nM, yp_ltF, yp_ltT, yp_leF, yp_leT, yp_eqF, eq_self, yp_eqM, lt1, yp_sbN, yp_sb2N, ↓reduceIte, ↓yp_iP11, ↓yp_iP12, ↓yp_m0P], h2, h3⟩
set_option maxHeartbeats 1000000 in
theorem yp_c_sumTurns {m : Mem} {Q : yp_EnvT} {H : Nat → Int32} (hE : yp_EV Q) (hC : yp_CLc B m Q) (f c s : Nat) (hT : ∀ g, g < yp_qg Q → m (B + 26) g = yp_TV Q H f c g (H (f * 7 + c))) : fX5_sumOfTurns (yp_SH B) (B + 23) (yp_N s) m = some (match yp_thV Q H f c s with
  | none => -yp_N 1
  | some v => v) := by
  have hO := yp_optS B
  have hq := hE.2.1
  have c1 := hC.2.1
  obtain ⟨r, h1, h2⟩ := yp_lpI (step := fun st : Int32 × Int32 => fX5_sumOfTurns_b4 (yp_SH B) (B + 23) (yp_N s) st.1 st.2 m) (fun k st => ∃ v, st = (v, yp_N k) ∧ yp_fo (yp_thG Q H f c s) k (some (yp_N 0)) = some v) (fun r => r = match yp_thV Q H f c s with
    | none => Sum.inl ()
    | some v => Sum.inr v) (yp_qg Q) (fun k st hk hJ => by
    obtain ⟨v, rfl, hv⟩ := hJ
    by_cases e : k = yp_qg Q
    · subst e
      refine .inr ⟨Sum.inr v, by simp (disch := omega) only [fX5_sumOfTurns_b4, hO, c1, Nat.reduceAdd, Nat.reduceMul, Nat.reduceSub, Nat.zero_add, Nat.add_zero, yp_LT, yp_nA, yp_nM, yp_ltF, yp_ltT, yp_leF, yp_leT, yp_eqF, eq_self, yp_eqM, lt1, yp_sbN, yp_sb2N, ↓reduceIte, ↓yp_iP11, ↓yp_iP12, ↓yp_m0P], ?_⟩
      unfold yp_thV
      rw [hv]
    · have e1 := yp_c_parts hE hC k (by omega)
      have e2 := hT k (by omega)
      have e3 : yp_fo (yp_thG Q H f c s) (k + 1) (some (yp_N 0)) = yp_thG Q H f c s k (some v) := by rw [yp_fo_s, hv]
      by_cases hb : yp_bt (yp_N s) k = yp_N 1
      · have hb' := hb
        unfold yp_bt at hb'
        by_cases hk0 : yp_qk Q k = yp_N 0
        · refine .inl ⟨by omega, (v + yp_TV Q H f c k (H (f * 7 + c)), yp_N (k + 1)), ?_, _, rfl, ?_⟩
          · simp (disch := omega) only [fX5_sumOfTurns_b4, fX5_sumOfTurns_j46, hO, c1, hb', e1, e2, hk0, Nat.reduceAdd, Nat.reduceMul, Nat.reduceSub, Nat.zero_add, Nat.add_zero, yp_LT, yp_nA, yp_nM, yp_ltF, yp_ltT, yp_leF, yp_leT, yp_eqF, eq_self, yp_eqM, lt1, yp_sbN, yp_sb2N, ↓reduceIte, ↓yp_iP11, ↓yp_iP12, ↓yp_m0P]
          · rw [e3]
            simp only [yp_thG, hb, hk0, if_true]
        · refine .inr ⟨Sum.inl (), ?_, ?_⟩
          · simp (disch := omega) only [fX5_sumOfTurns_b4, fX5_sumOfTurns_j46, hO, c1, hb', e1, e2, hk0, Nat.reduceAdd, Nat.reduceMul, Nat.reduceSub, Nat.zero_add, Nat.add_zero, yp_LT, yp_nA, yp_nM, yp_ltF, yp_ltT, yp_leF, yp_leT, yp_eqF, eq_self, yp_eqM, lt1, yp_sbN, yp_sb2N, ↓reduceIte, ↓yp_iP11, ↓yp_iP12, ↓yp_m0P]
          · have e4 : yp_thV Q H f c s = none := yp_th_none Q H f c s (k := k + 1) (by omega) (by
              rw [e3]
              simp only [yp_thG, hb, hk0, if_true, if_false])
            rw [e4]
      · have hb' := hb
        unfold yp_bt at hb'
        refine .inl ⟨by omega, (v, yp_N (k + 1)), ?_, _, rfl, ?_⟩
        · simp (disch := omega) only [fX5_sumOfTurns_b4, fX5_sumOfTurns_j46, hO, c1, hb', Nat.reduceAdd, Nat.reduceMul, Nat.reduceSub, Nat.zero_add, Nat.add_zero, yp_LT, yp_nA, yp_nM, yp_ltF, yp_ltT, yp_leF, yp_leT, yp_eqF, eq_self, yp_eqM, lt1, yp_sbN, yp_sb2N, ↓reduceIte, ↓yp_iP11, ↓yp_iP12, ↓yp_m0P]
        · rw [e3]
          simp only [yp_thG, hb, if_false]) (show yp_qg Q < FU by rw [yp_FUe]; omega) (s0 := (yp_N 0, yp_N 0)) ⟨yp_N 0, rfl, rfl⟩
  simp (disch := omega) only [fX5_sumOfTurns_j52, fX5_sumOfTurns_j35, fX5_sumOfTurns_j46, fX5_sumOfTurns, h1, h2, Nat.reduceAdd, Nat.reduceMul, Nat.reduceSub, Nat.zero_add, Nat.add_zero, yp_LT, yp_nA, yp_nM, yp_ltF, yp_ltT, yp_leF, yp_leT, yp_eqF, eq_self, yp_eqM, lt1, yp_sbN, yp_sb2N, ↓reduceIte, ↓yp_iP11, ↓yp_iP12, ↓yp_m0P]
  cases yp_thV Q H f c s <;> rfl
set_option maxHeartbeats 1000000 in
theorem yp_m_sumTurns {m : Mem} {Q : yp_EnvT} {H : Nat → Int32} (hE : yp_EV Q) (hC : yp_CLm B m Q) (hM0 : yp_HM m (B + 533) H) (f c s : Nat) (hf : f < 6) (hc : c < 7) (x3 x4 : Int32) : ∃ r : Int32 × Int32 × Mem, loopN (fun st : Int32 × Int32 × Int32 × Mem => fX12_through_b104 (yp_SH B) (B + 517) (yp_N f) (yp_N c) x3 x4 (yp_N s) st.1 st.2.1 st.2.2.1 st.2.2.2) FU (yp_N 0, yp_N 1, yp_N 0, m) = some r ∧ (match yp_thV Q H f c s with
  | none => r.2.1 = yp_N 0
  | some v => r.1 = v ∧ r.2.1 = yp_N 1) ∧ yp_Fr (yp_TM B) m r.2.2 := by
  have hM := yp_mS B
  have hM2 := yp_refS B
  have hq := hE.2.1
  obtain ⟨r, h1, h2, h3⟩ := yp_lpI (step := fun st : Int32 × Int32 × Int32 × Mem => fX12_through_b104 (yp_SH B) (B + 517) (yp_N f) (yp_N c) x3 x4 (yp_N s) st.1 st.2.1 st.2.2.1 st.2.2.2) (fun k st => ∃ v z m1, st = (v, z, yp_N k, m1) ∧ ((z = yp_N 1 ∧ yp_fo (yp_thG Q H f c s) k (some (yp_N 0)) = some v) ∨ (z = yp_N 0 ∧ yp_thV Q H f c s = none)) ∧ yp_Fr (yp_TM B) m m1) (fun r => (match yp_thV Q H f c s with
    | none => r.2.1 = yp_N 0
    | some v => r.1 = v ∧ r.2.1 = yp_N 1) ∧ yp_Fr (yp_TM B) m r.2.2) (yp_qg Q) (fun k st hk hJ => by
    obtain ⟨v, z, m1, rfl, hv, hF⟩ := hJ
    have c1 : m1 (B + 517) 18 = yp_N (yp_qg Q) := (hF _ _ (by unfold yp_TM; omega)).trans hC.2.1
    by_cases e : k = yp_qg Q
    · subst e
      refine .inr ⟨(v, z, m1), by simp (disch := omega) only [fX12_through_b104, hM, c1, Nat.reduceAdd, Nat.reduceMul, Nat.reduceSub, Nat.zero_add, Nat.add_zero, yp_LT, yp_nA, yp_nM, yp_ltF, yp_ltT, yp_leF, yp_leT, yp_eqF, eq_self, yp_eqM, lt1, yp_sbN, yp_sb2N, ↓reduceIte, ↓yp_iP11, ↓yp_iP12, ↓yp_m0P], ?_, hF⟩
      rcases hv with ⟨rfl, hv⟩ | ⟨rfl, hv⟩
      · unfold yp_thV
        rw [hv]
        exact ⟨rfl, rfl⟩
      · rw [hv]
    · rcases hv with ⟨rfl, hv⟩ | ⟨rfl, hv⟩
      · have hC1 : yp_CLm B m1 Q := hC.fr (fun a j h => hF a j (by unfold yp_TM; omega))
        have hH1 : yp_HM m1 (B + 533) H := hM0.same (fun j => hF _ j (by unfold yp_TM; omega))
        have e1 := yp_m_joins hE hC1 k (by omega)
        have e2 := hH1 (f * 7 + c) (by omega)
        have e3 : yp_fo (yp_thG Q H f c s) (k + 1) (some (yp_N 0)) = yp_thG Q H f c s k (some v) := by rw [yp_fo_s, hv]
        obtain ⟨m2, t1, t2⟩ := yp_m_turnsBy hE hC1 hH1 f c k (H (f * 7 + c)) hf hc (by omega)
        rcases yp_bt01 (yp_N s) k with hb | hb
        · have hb' := hb
          unfold yp_bt at hb'
          refine .inl ⟨by omega, (v, yp_N 1, yp_N (k + 1), m1), ?_, _, _, _, rfl, .inl ⟨rfl, ?_⟩, hF⟩
          · simp (disch := omega) only [fX12_through_b104, fX12_through_j171, hM, c1, hb', Nat.reduceAdd, Nat.reduceMul, Nat.reduceSub, Nat.zero_add, Nat.add_zero, yp_LT, yp_nA, yp_nM, yp_ltF, yp_ltT, yp_leF, yp_leT, yp_eqF, eq_self, yp_eqM, lt1, yp_sbN, yp_sb2N, ↓reduceIte, ↓yp_iP11, ↓yp_iP12, ↓yp_m0P]
          · rw [e3]
            simp only [yp_thG, hb, show ¬ yp_N 0 = yp_N 1 from by decide, if_false]
        · have hb' := hb
          unfold yp_bt at hb'
          by_cases hk0 : yp_qk Q k = yp_N 0
          · refine .inl ⟨by omega, (v + yp_TV Q H f c k (H (f * 7 + c)), yp_N 1, yp_N (k + 1), m2), ?_, _, _, _, rfl, .inl ⟨rfl, ?_⟩, hF.tr t2⟩
            · simp (disch := omega) only [fX12_through_b104, fX12_through_j145, fX12_through_j171, hM, c1, hb', e1, hk0, yp_m_in, e2, t1, Nat.reduceAdd, Nat.reduceMul, Nat.reduceSub, Nat.zero_add, Nat.add_zero, yp_LT, yp_nA, yp_nM, yp_ltF, yp_ltT, yp_leF, yp_leT, yp_eqF, eq_self, yp_eqM, lt1, yp_sbN, yp_sb2N, ↓reduceIte, ↓yp_iP11, ↓yp_iP12, ↓yp_m0P]
            · rw [e3]
              simp only [yp_thG, hb, hk0, if_true]
          · refine .inl ⟨by omega, (v + yp_TV Q H f c k (H (f * 7 + c)), yp_N 0, yp_N (k + 1), m2), ?_, _, _, _, rfl, .inr ⟨rfl, ?_⟩, hF.tr t2⟩
            · simp (disch := omega) only [fX12_through_b104, fX12_through_j145, fX12_through_j171, hM, c1, hb', e1, hk0, yp_m_in, e2, t1, Nat.reduceAdd, Nat.reduceMul, Nat.reduceSub, Nat.zero_add, Nat.add_zero, yp_LT, yp_nA, yp_nM, yp_ltF, yp_ltT, yp_leF, yp_leT, yp_eqF, eq_self, yp_eqM, lt1, yp_sbN, yp_sb2N, ↓reduceIte, ↓yp_iP11, ↓yp_iP12, ↓yp_m0P]
            · exact yp_th_none Q H f c s (k := k + 1) (by omega) (by
                rw [e3]
                simp only [yp_thG, hb, hk0, if_true, if_false])
      · refine .inr ⟨(v, yp_N 0, m1), by simp (disch := omega) only [fX12_through_b104, hM, c1, Nat.reduceAdd, Nat.reduceMul, Nat.reduceSub, Nat.zero_add, Nat.add_zero, yp_LT, yp_nA, yp_nM, yp_ltF, yp_ltT, yp_leF, yp_leT, yp_eqF, eq_self, yp_eqM, lt1, yp_sbN, yp_sb2N, ↓reduceIte, ↓yp_iP11, ↓yp_iP12, ↓yp_m0P], ?_, hF⟩
        rw [hv]) (show yp_qg Q < FU by rw [yp_FUe]; omega) (s0 := (yp_N 0, yp_N 1, yp_N 0, m)) ⟨yp_N 0, yp_N 1, m, rfl, .inl ⟨rfl, rfl⟩, yp_Fr.rf⟩
  exact ⟨r, h1, h2, h3⟩
end ASK5

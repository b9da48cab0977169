section ASK3
variable {B : Nat} {mm : Mem} {A : yp_St}
def yp_oN (s : Option Nat) : Int32 := match s with
  | none => -yp_N 1
  | some b => yp_N b
set_option maxHeartbeats 1000000 in
theorem yp_fo_lt {g : Nat → Option Nat → Option Nat} (hg : ∀ k s b, g k s = some b → s = some b ∨ b = k) : ∀ n b, yp_fo g n none = some b → b < n := by
  intro n
  induction n with
  | zero => intro b h; cases h
  | succ n ih =>
    intro b h
    rcases hg n _ b h with h1 | h1
    · have := ih b h1; omega
    · omega
def yp_brG (H : Nat → Int32) (k : Nat) (s : Option Nat) : Option Nat := match s with
  | none => some k
  | some b => if yp_W H k ≤ yp_W H b then some b else some k
def yp_oW (H : Nat → Int32) (s : Option Nat) : Int32 := match s with
  | none => -yp_N 1
  | some b => yp_W H b
set_option maxHeartbeats 1000000 in
theorem yp_br_g (H : Nat → Int32) : ∀ k s b, yp_brG H k s = some b → s = some b ∨ b = k := by
  intro k s b h
  cases s with
  | none => right; unfold yp_brG at h; cases h; rfl
  | some c =>
    simp only [yp_brG] at h
    split at h
    · left; exact h
    · right; cases h; rfl
set_option maxHeartbeats 1000000 in
theorem yp_p_broadest (hR : yp_RCc B mm A) (hI : yp_INV A) (x : Int32) : yp_PM B (fX11_broadest (yp_SH B) B x mm) (fun m => fX12_broadest (yp_SH B) (B + 517) x m) hcI mm A := by
  have hA := yp_clsS B
  have hX := yp_HSx (yp_hs33 B)
  have hM := yp_mS B
  have hn := @yp_nd1 B mm
  have h0 := @yp_nd0 B mm A hR
  have hq := hI.1.1
  have c1 := hR.1.1
  rcases yp_rng x 1 (by omega) with ⟨k, hk, rfl⟩ | h | h
  rotate_left
  · exact yp_PM_e1 hR hI (by simp (disch := omega) only [fX11_broadest_j75, fX11_broadest_j66, fX11_broadest_j60, fX11_broadest_j15, fX11_broadest_j10, fX11_broadest, hA, ↓h0, yp_lt_ne h, ↓yp_smL, ↓yp_smR, Nat.reduceAdd, Nat.reduceMul, Nat.reduceSub, Nat.zero_add, Nat.add_zero, yp_LT, yp_nA, yp_nM, yp_ltF, yp_ltT, yp_leF, yp_leT, yp_eqF, eq_self, yp_eqM, lt1, yp_sbN, yp_sb2N, ↓reduceIte, ↓yp_iP11, ↓yp_iP12, ↓yp_m0P]) (fun m hm => by simp (disch := omega) only [fX12_broadest_j82, fX12_broadest_j73, fX12_broadest_j64, fX12_broadest_j58, fX12_broadest_j56, fX12_broadest, hM, yp_m0e, ↓yp_wiP, h, yp_may11, Nat.reduceAdd, Nat.reduceMul, Nat.reduceSub, Nat.zero_add, Nat.add_zero, yp_LT, yp_nA, yp_nM, yp_ltF, yp_ltT, yp_leF, yp_leT, yp_eqF, eq_self, yp_eqM, lt1, yp_sbN, yp_sb2N, ↓reduceIte, ↓yp_iP11, ↓yp_iP12, ↓yp_m0P]) rfl yp_n1
  · exact yp_PM_e1 hR hI (by simp (disch := omega) only [fX11_broadest_j75, fX11_broadest_j66, fX11_broadest_j60, fX11_broadest_j15, fX11_broadest_j10, fX11_broadest, hA, ↓h0, yp_gt_ne h, ↓yp_smL, ↓yp_smR, Nat.reduceAdd, Nat.reduceMul, Nat.reduceSub, Nat.zero_add, Nat.add_zero, yp_LT, yp_nA, yp_nM, yp_ltF, yp_ltT, yp_leF, yp_leT, yp_eqF, eq_self, yp_eqM, lt1, yp_sbN, yp_sb2N, ↓reduceIte, ↓yp_iP11, ↓yp_iP12, ↓yp_m0P]) (fun m hm => by simp (disch := omega) only [fX12_broadest_j82, fX12_broadest_j73, fX12_broadest_j64, fX12_broadest_j58, fX12_broadest_j56, fX12_broadest, hM, yp_m0e, ↓yp_wiP, h, yp_may11, Nat.reduceAdd, Nat.reduceMul, Nat.reduceSub, Nat.zero_add, Nat.add_zero, yp_LT, yp_nA, yp_nM, yp_ltF, yp_ltT, yp_leF, yp_leT, yp_eqF, eq_self, yp_eqM, lt1, yp_sbN, yp_sb2N, ↓reduceIte, ↓yp_iP11, ↓yp_iP12, ↓yp_m0P]) rfl yp_n1
  have L1 : ∀ x1, loopN (fun st : Int32 × Int32 × Int32 => fX11_broadest_b25 (yp_SH B) B x1 st.1 st.2.1 st.2.2 mm) FU (-yp_N 1, -yp_N 1, yp_N 0) = some (yp_oN (yp_fo (yp_brG (yp_sH A)) (yp_qf (yp_sQ A)) none), yp_oW (yp_sH A) (yp_fo (yp_brG (yp_sH A)) (yp_qf (yp_sQ A)) none)) := by
    intro x1
    refine yp_lpF (fun k s => (yp_oN s, yp_oW (yp_sH A) s, yp_N k)) (yp_brG (yp_sH A)) (fun s => (yp_oN s, yp_oW (yp_sH A) s)) (yp_qf (yp_sQ A)) none (fun k z hk hz => ?_) (fun z hz => ?_) (by rw [yp_FUe]; omega) rfl
    · have e1 := yp_h_all (yp_hs33 B) hR.2.1 k (by omega)
      cases z with
      | none =>
        have e2 : (yp_W (yp_sH A) k ≤ -yp_N 1) = False := by
          have := (hI.2.1.W k (by omega)).2.1
          apply eq_false
          rw [yp_leTi, yp_tiM]
          omega
        simp (disch := omega) only [fX11_broadest_b25, fX11_broadest_j60, hA, c1, e1, yp_oN, yp_oW, yp_brG, e2, Nat.reduceAdd, Nat.reduceMul, Nat.reduceSub, Nat.zero_add, Nat.add_zero, yp_LT, yp_nA, yp_nM, yp_ltF, yp_ltT, yp_leF, yp_leT, yp_eqF, eq_self, yp_eqM, lt1, yp_sbN, yp_sb2N, ↓reduceIte, ↓yp_iP11, ↓yp_iP12, ↓yp_m0P]
      | some b =>
        simp (disch := omega) only [fX11_broadest_b25, fX11_broadest_j60, hA, c1, e1, yp_oN, yp_oW, yp_brG, Nat.reduceAdd, Nat.reduceMul, Nat.reduceSub, Nat.zero_add, Nat.add_zero, yp_LT, yp_nA, yp_nM, yp_ltF, yp_ltT, yp_leF, yp_leT, yp_eqF, eq_self, yp_eqM, lt1, yp_sbN, yp_sb2N, ↓reduceIte, ↓yp_iP11, ↓yp_iP12, ↓yp_m0P]
        by_cases e : yp_W (yp_sH A) k ≤ yp_W (yp_sH A) b
        · simp only [e, if_true]
        · simp only [e, if_false]
    · simp (disch := omega) only [fX11_broadest_b25, hA, c1, Nat.reduceAdd, Nat.reduceMul, Nat.reduceSub, Nat.zero_add, Nat.add_zero, yp_LT, yp_nA, yp_nM, yp_ltF, yp_ltT, yp_leF, yp_leT, yp_eqF, eq_self, yp_eqM, lt1, yp_sbN, yp_sb2N, ↓reduceIte, ↓yp_iP11, ↓yp_iP12, ↓yp_m0P]
  have L2 : ∀ (m2 : Mem) x1, yp_HM m2 (B + 533) (yp_sH A) → yp_CLm B m2 (yp_sQ A) → loopN (fun st : Int32 × Int32 => fX12_broadest_b30 (yp_SH B) (B + 517) x1 st.1 st.2 m2) FU (-yp_N 1, yp_N 0) = some (yp_oN (yp_fo (yp_brG (yp_sH A)) (yp_qf (yp_sQ A)) none)) := by
    intro m2 x1 a2 a3
    have c2 := a3.1
    refine yp_lpF (fun k s => (yp_oN s, yp_N k)) (yp_brG (yp_sH A)) yp_oN (yp_qf (yp_sQ A)) none (fun k z hk hz => ?_) (fun z hz => ?_) (by rw [yp_FUe]; omega) rfl
    · cases z with
      | none => simp (disch := omega) only [fX12_broadest_b30, fX12_broadest_j56, fX12_broadest_j58, hM, c2, yp_oN, yp_brG, Nat.reduceAdd, Nat.reduceMul, Nat.reduceSub, Nat.zero_add, Nat.add_zero, yp_LT, yp_nA, yp_nM, yp_ltF, yp_ltT, yp_leF, yp_leT, yp_eqF, eq_self, yp_eqM, lt1, yp_sbN, yp_sb2N, ↓reduceIte, ↓yp_iP11, ↓yp_iP12, ↓yp_m0P]
      | some b =>
        have hb := yp_fo_lt (yp_br_g (yp_sH A)) k b hz.symm
        have e1 := yp_m_within a2 k (by omega)
        have e2 := yp_m_within a2 b (by omega)
        simp (disch := omega) only [fX12_broadest_b30, fX12_broadest_j56, fX12_broadest_j58, hM, c2, e1, e2, yp_oN, yp_brG, Nat.reduceAdd, Nat.reduceMul, Nat.reduceSub, Nat.zero_add, Nat.add_zero, yp_LT, yp_nA, yp_nM, yp_ltF, yp_ltT, yp_leF, yp_leT, yp_eqF, eq_self, yp_eqM, lt1, yp_sbN, yp_sb2N, ↓reduceIte, ↓yp_iP11, ↓yp_iP12, ↓yp_m0P]
        by_cases e : yp_W (yp_sH A) k ≤ yp_W (yp_sH A) b
        · simp only [e, if_true]
        · simp only [e, if_false]
    · simp (disch := omega) only [fX12_broadest_b30, hM, c2, Nat.reduceAdd, Nat.reduceMul, Nat.reduceSub, Nat.zero_add, Nat.add_zero, yp_LT, yp_nA, yp_nM, yp_ltF, yp_ltT, yp_leF, yp_leT, yp_eqF, eq_self, yp_eqM, lt1, yp_sbN, yp_sb2N, ↓reduceIte, ↓yp_iP11, ↓yp_iP12, ↓yp_m0P]
  rcases yp_z01 hk with rfl | rfl
  · refine yp_PM_tk hR hI (v := yp_oN (yp_fo (yp_brG (yp_sH A)) (yp_qf (yp_sQ A)) none)) ?_ (fun m m2 hm a1 a2 a3 a4 => ?_)
    · simp (disch := omega) only [fX11_broadest_j75, fX11_broadest_j66, fX11_broadest_j60, fX11_broadest_j15, fX11_broadest_j10, fX11_broadest, hA, ↓hn, ↓yp_smL, ↓yp_smR, L1, Nat.reduceAdd, Nat.reduceMul, Nat.reduceSub, Nat.zero_add, Nat.add_zero, yp_LT, yp_nA, yp_nM, yp_ltF, yp_ltT, yp_leF, yp_leT, yp_eqF, eq_self, yp_eqM, lt1, yp_sbN, yp_sb2N, ↓reduceIte, ↓yp_iP11, ↓yp_iP12, ↓yp_m0P]
    · simp (disch := omega) only [fX12_broadest_j82, fX12_broadest_j73, fX12_broadest_j64, fX12_broadest_j58, fX12_broadest_j56, fX12_broadest, hM, yp_m0e, ↓yp_wiP, yp_mayG, a1, L2 m2 (yp_N 0) a2 a3, Nat.reduceAdd, Nat.reduceMul, Nat.reduceSub, Nat.zero_add, Nat.add_zero, yp_LT, yp_nA, yp_nM, yp_ltF, yp_ltT, yp_leF, yp_leT, yp_eqF, eq_self, yp_eqM, lt1, yp_sbN, yp_sb2N, ↓reduceIte, ↓yp_iP11, ↓yp_iP12, ↓yp_m0P]
  · refine yp_PM_tk hR hI (v := yp_oW (yp_sH A) (yp_fo (yp_brG (yp_sH A)) (yp_qf (yp_sQ A)) none)) ?_ (fun m m2 hm a1 a2 a3 a4 => ?_)
    · simp (disch := omega) only [fX11_broadest_j75, fX11_broadest_j66, fX11_broadest_j60, fX11_broadest_j15, fX11_broadest_j10, fX11_broadest, hA, ↓hn, ↓yp_smL, ↓yp_smR, L1, Nat.reduceAdd, Nat.reduceMul, Nat.reduceSub, Nat.zero_add, Nat.add_zero, yp_LT, yp_nA, yp_nM, yp_ltF, yp_ltT, yp_leF, yp_leT, yp_eqF, eq_self, yp_eqM, lt1, yp_sbN, yp_sb2N, ↓reduceIte, ↓yp_iP11, ↓yp_iP12, ↓yp_m0P]
    · have e0 := L2 m2 (yp_N 1) a2 a3
      cases hz : yp_fo (yp_brG (yp_sH A)) (yp_qf (yp_sQ A)) none with
      | none =>
        rw [hz] at e0
        simp only [yp_oN] at e0
        simp (disch := omega) only [fX12_broadest_j82, fX12_broadest_j73, fX12_broadest_j64, fX12_broadest_j58, fX12_broadest_j56, fX12_broadest, hM, yp_m0e, ↓yp_wiP, yp_mayG, a1, e0, yp_oW, Nat.reduceAdd, Nat.reduceMul, Nat.reduceSub, Nat.zero_add, Nat.add_zero, yp_LT, yp_nA, yp_nM, yp_ltF, yp_ltT, yp_leF, yp_leT, yp_eqF, eq_self, yp_eqM, lt1, yp_sbN, yp_sb2N, ↓reduceIte, ↓yp_iP11, ↓yp_iP12, ↓yp_m0P]
      | some b =>
        have hb := yp_fo_lt (yp_br_g (yp_sH A)) _ b hz
        have e2 := yp_m_within a2 b (by omega)
        rw [hz] at e0
        simp only [yp_oN] at e0
        simp (disch := omega) only [fX12_broadest_j82, fX12_broadest_j73, fX12_broadest_j64, fX12_broadest_j58, fX12_broadest_j56, fX12_broadest, hM, yp_m0e, ↓yp_wiP, yp_mayG, a1, e0, yp_oW, e2, Nat.reduceAdd, Nat.reduceMul, Nat.reduceSub, Nat.zero_add, Nat.add_zero, yp_LT, yp_nA, yp_nM, yp_ltF, yp_ltT, yp_leF, yp_leT, yp_eqF, eq_self, yp_eqM, lt1, yp_sbN, yp_sb2N, ↓reduceIte, ↓yp_iP11, ↓yp_iP12, ↓yp_m0P]
def yp_svG (H : Nat → Int32) (c : Nat) (n : Int32) (k : Nat) (s : Option Nat) : Option Nat := match s with
  | none => some k
  | some b => if abI (H (b * 7 + c) - n) ≤ abI (H (k * 7 + c) - n) then some b else some k
def yp_oS (H : Nat → Int32) (c : Nat) (n : Int32) (s : Option Nat) : Int32 := match s with
  | none => yp_N 0
  | some b => abI (H (b * 7 + c) - n)
set_option maxHeartbeats 1000000 in
theorem yp_sv_g (H : Nat → Int32) (c : Nat) (n : Int32) : ∀ k s b, yp_svG H c n k s = some b → s = some b ∨ b = k := by
  intro k s b h
  cases s with
  | none => right; unfold yp_svG at h; cases h; rfl
  | some c =>
    simp only [yp_svG] at h
    split at h
    · left; exact h
    · right; cases h; rfl
set_option maxHeartbeats 1000000 in
theorem yp_p_serves (hR : yp_RCc B mm A) (hI : yp_INV A) (x y : Int32) : yp_PM B (fX11_serves (yp_SH B) B x y mm) (fun m => fX12_serves (yp_SH B) (B + 517) x y m) hcI mm A := by
  have hA := yp_clsS B
  have hX := yp_HSx (yp_hs33 B)
  have hM := yp_mS B
  have hn := @yp_nd1 B mm
  have h0 := @yp_nd0 B mm A hR
  have hq := hI.1.1
  have c1 := hR.1.1
  rcases yp_partR x with ⟨c, hcc, rfl, q1, q2⟩ | ⟨q1, q2⟩
  rotate_left
  · exact yp_PM_e1 hR hI (by simp (disch := omega) only [fX11_serves_j94, fX11_serves_j88, fX11_serves_j81, fX11_serves_j24, fX11_serves_j23, fX11_serves, hA, ↓h0, ↓yp_opP q1, ↓yp_smL, ↓yp_smR, Nat.reduceAdd, Nat.reduceMul, Nat.reduceSub, Nat.zero_add, Nat.add_zero, yp_LT, yp_nA, yp_nM, yp_ltF, yp_ltT, yp_leF, yp_leT, yp_eqF, eq_self, yp_eqM, lt1, yp_sbN, yp_sb2N, ↓reduceIte, ↓yp_iP11, ↓yp_iP12, ↓yp_m0P]) (fun m hm => by simp (disch := omega) only [fX12_serves_j103, fX12_serves_j97, fX12_serves_j94, fX12_serves_j29, fX12_serves_j28, fX12_serves, hM, yp_m0e, ↓yp_opP q2, yp_may11, Nat.reduceAdd, Nat.reduceMul, Nat.reduceSub, Nat.zero_add, Nat.add_zero, yp_LT, yp_nA, yp_nM, yp_ltF, yp_ltT, yp_leF, yp_leT, yp_eqF, eq_self, yp_eqM, lt1, yp_sbN, yp_sb2N, ↓reduceIte, ↓yp_iP11, ↓yp_iP12, ↓yp_m0P]) rfl yp_n1
  rcases yp_rng y 400 (by omega) with ⟨n, hn4, rfl⟩ | h | h
  rotate_left
  · exact yp_PM_e1 hR hI (by simp (disch := omega) only [fX11_serves_j94, fX11_serves_j88, fX11_serves_j81, fX11_serves_j24, fX11_serves_j23, fX11_serves, hA, ↓yp_opP q1, ↓h0, h, ↓yp_smL, ↓yp_smR, Nat.reduceAdd, Nat.reduceMul, Nat.reduceSub, Nat.zero_add, Nat.add_zero, yp_LT, yp_nA, yp_nM, yp_ltF, yp_ltT, yp_leF, yp_leT, yp_eqF, eq_self, yp_eqM, lt1, yp_sbN, yp_sb2N, ↓reduceIte, ↓yp_iP11, ↓yp_iP12, ↓yp_m0P]) (fun m hm => by simp (disch := omega) only [fX12_serves_j103, fX12_serves_j97, fX12_serves_j94, fX12_serves_j29, fX12_serves_j28, fX12_serves, hM, yp_m0e, ↓yp_opP q2, ↓yp_wiP, h, yp_may11, Nat.reduceAdd, Nat.reduceMul, Nat.reduceSub, Nat.zero_add, Nat.add_zero, yp_LT, yp_nA, yp_nM, yp_ltF, yp_ltT, yp_leF, yp_leT, yp_eqF, eq_self, yp_eqM, lt1, yp_sbN, yp_sb2N, ↓reduceIte, ↓yp_iP11, ↓yp_iP12, ↓yp_m0P]) rfl yp_n1
  · exact yp_PM_e1 hR hI (by simp (disch := omega) only [fX11_serves_j94, fX11_serves_j88, fX11_serves_j81, fX11_serves_j24, fX11_serves_j23, fX11_serves, hA, ↓yp_opP q1, ↓h0, h, ↓yp_smL, ↓yp_smR, Nat.reduceAdd, Nat.reduceMul, Nat.reduceSub, Nat.zero_add, Nat.add_zero, yp_LT, yp_nA, yp_nM, yp_ltF, yp_ltT, yp_leF, yp_leT, yp_eqF, eq_self, yp_eqM, lt1, yp_sbN, yp_sb2N, ↓reduceIte, ↓yp_iP11, ↓yp_iP12, ↓yp_m0P]) (fun m hm => by simp (disch := omega) only [fX12_serves_j103, fX12_serves_j97, fX12_serves_j94, fX12_serves_j29, fX12_serves_j28, fX12_serves, hM, yp_m0e, ↓yp_opP q2, ↓yp_wiP, h, yp_may11, Nat.reduceAdd, Nat.reduceMul, Nat.reduceSub, Nat.zero_add, Nat.add_zero, yp_LT, yp_nA, yp_nM, yp_ltF, yp_ltT, yp_leF, yp_leT, yp_eqF, eq_self, yp_eqM, lt1, yp_sbN, yp_sb2N, ↓reduceIte, ↓yp_iP11, ↓yp_iP12, ↓yp_m0P]) rfl yp_n1
  have L1 : loopN (fun st : Int32 × Int32 × Int32 => fX11_serves_b35 (yp_SH B) B (yp_N c) (yp_N n) st.1 st.2.1 st.2.2 mm) FU (-yp_N 1, yp_N 0, yp_N 0) = some (yp_oN (yp_fo (yp_svG (yp_sH A) c (yp_N n)) (yp_qf (yp_sQ A)) none)) := by
    refine yp_lpF (fun k s => (yp_oN s, yp_oS (yp_sH A) c (yp_N n) s, yp_N k)) (yp_svG (yp_sH A) c (yp_N n)) yp_oN (yp_qf (yp_sQ A)) none (fun k z hk hz => ?_) (fun z hz => ?_) (by rw [yp_FUe]; omega) rfl
    · have e1 := hR.2.1.1 (k * 7 + c) (by omega)
      cases z with
      | none => simp (disch := omega) only [fX11_serves_b35, fX11_serves_j81, fX11_serves_j88, hA, hX, c1, e1, yp_oN, yp_oS, yp_svG, Nat.reduceAdd, Nat.reduceMul, Nat.reduceSub, Nat.zero_add, Nat.add_zero, yp_LT, yp_nA, yp_nM, yp_ltF, yp_ltT, yp_leF, yp_leT, yp_eqF, eq_self, yp_eqM, lt1, yp_sbN, yp_sb2N, ↓reduceIte, ↓yp_iP11, ↓yp_iP12, ↓yp_m0P]
      | some b =>
        have hb := yp_fo_lt (yp_sv_g (yp_sH A) c (yp_N n)) k b hz.symm
        simp (disch := omega) only [fX11_serves_b35, fX11_serves_j81, fX11_serves_j88, hA, hX, c1, e1, yp_oN, yp_oS, yp_svG, Nat.reduceAdd, Nat.reduceMul, Nat.reduceSub, Nat.zero_add, Nat.add_zero, yp_LT, yp_nA, yp_nM, yp_ltF, yp_ltT, yp_leF, yp_leT, yp_eqF, eq_self, yp_eqM, lt1, yp_sbN, yp_sb2N, ↓reduceIte, ↓yp_iP11, ↓yp_iP12, ↓yp_m0P]
        by_cases e : abI (yp_sH A (b * 7 + c) - yp_N n) ≤ abI (yp_sH A (k * 7 + c) - yp_N n)
        · simp only [e, if_true]
        · simp only [e, if_false]
    · simp (disch := omega) only [fX11_serves_b35, hA, c1, Nat.reduceAdd, Nat.reduceMul, Nat.reduceSub, Nat.zero_add, Nat.add_zero, yp_LT, yp_nA, yp_nM, yp_ltF, yp_ltT, yp_leF, yp_leT, yp_eqF, eq_self, yp_eqM, lt1, yp_sbN, yp_sb2N, ↓reduceIte, ↓yp_iP11, ↓yp_iP12, ↓yp_m0P]
  refine yp_PM_st hR hI (v := yp_oN (yp_fo (yp_svG (yp_sH A) c (yp_N n)) (yp_qf (yp_sQ A)) none)) ?_ (fun m hm hm0 => ?_)
  · simp (disch := omega) only [fX11_serves_j94, fX11_serves_j88, fX11_serves_j81, fX11_serves_j24, fX11_serves_j23, fX11_serves, hA, ↓hn, ↓yp_opP q1, ↓yp_smL, ↓yp_smR, L1, Nat.reduceAdd, Nat.reduceMul, Nat.reduceSub, Nat.zero_add, Nat.add_zero, yp_LT, yp_nA, yp_nM, yp_ltF, yp_ltT, yp_leF, yp_leT, yp_eqF, eq_self, yp_eqM, lt1, yp_sbN, yp_sb2N, ↓reduceIte, ↓yp_iP11, ↓yp_iP12, ↓yp_m0P]
  · have c2 := hm0.1.1
    have L2 : loopN (fun st : Int32 × Int32 => fX12_serves_b44 (yp_SH B) (B + 517) (yp_N c) (yp_N n) st.1 st.2 (yp_m0 B m)) FU (-yp_N 1, yp_N 0) = some (yp_oN (yp_fo (yp_svG (yp_sH A) c (yp_N n)) (yp_qf (yp_sQ A)) none)) := by
      refine yp_lpF (fun k s => (yp_oN s, yp_N k)) (yp_svG (yp_sH A) c (yp_N n)) yp_oN (yp_qf (yp_sQ A)) none (fun k z hk hz => ?_) (fun z hz => ?_) (by rw [yp_FUe]; omega) rfl
      · cases z with
        | none => simp (disch := omega) only [fX12_serves_b44, fX12_serves_j94, fX12_serves_j97, hM, c2, yp_oN, yp_svG, Nat.reduceAdd, Nat.reduceMul, Nat.reduceSub, Nat.zero_add, Nat.add_zero, yp_LT, yp_nA, yp_nM, yp_ltF, yp_ltT, yp_leF, yp_leT, yp_eqF, eq_self, yp_eqM, lt1, yp_sbN, yp_sb2N, ↓reduceIte, ↓yp_iP11, ↓yp_iP12, ↓yp_m0P]
        | some b =>
          have hb := yp_fo_lt (yp_sv_g (yp_sH A) c (yp_N n)) k b hz.symm
          have e1 := hm0.2.1 (k * 7 + c) (by omega)
          have e2 := hm0.2.1 (b * 7 + c) (by omega)
          simp (disch := omega) only [fX12_serves_b44, fX12_serves_j94, fX12_serves_j97, hM, c2, e1, e2, yp_m_in, yp_szE, yp_oN, yp_svG, Nat.reduceAdd, Nat.reduceMul, Nat.reduceSub, Nat.zero_add, Nat.add_zero, yp_LT, yp_nA, yp_nM, yp_ltF, yp_ltT, yp_leF, yp_leT, yp_eqF, eq_self, yp_eqM, lt1, yp_sbN, yp_sb2N, ↓reduceIte, ↓yp_iP11, ↓yp_iP12, ↓yp_m0P]
          by_cases e : abI (yp_sH A (b * 7 + c) - yp_N n) ≤ abI (yp_sH A (k * 7 + c) - yp_N n)
          · simp only [e, if_true]
          · simp only [e, if_false]
      · simp (disch := omega) only [fX12_serves_b44, hM, c2, Nat.reduceAdd, Nat.reduceMul, Nat.reduceSub, Nat.zero_add, Nat.add_zero, yp_LT, yp_nA, yp_nM, yp_ltF, yp_ltT, yp_leF, yp_leT, yp_eqF, eq_self, yp_eqM, lt1, yp_sbN, yp_sb2N, ↓reduceIte, ↓yp_iP11, ↓yp_iP12, ↓yp_m0P]
    simp (disch := omega) only [fX12_serves_j103, fX12_serves_j97, fX12_serves_j94, fX12_serves_j29, fX12_serves_j28, fX12_serves, hM, yp_m0e, ↓yp_opP q2, ↓yp_wiP, yp_mayG, L2, Nat.reduceAdd, Nat.reduceMul, Nat.reduceSub, Nat.zero_add, Nat.add_zero, yp_LT, yp_nA, yp_nM, yp_ltF, yp_ltT, yp_leF, yp_leT, yp_eqF, eq_self, yp_eqM, lt1, yp_sbN, yp_sb2N, ↓reduceIte, ↓yp_iP11, ↓yp_iP12, ↓yp_m0P]
set_option maxHeartbeats 1000000 in
theorem yp_orB (f k : Nat) (hf : f < 6) (hk : k < 6) (h : f ≠ k) : (yp_N 1 <<< (yp_N f &&& yp_N 31)) ||| (yp_N 1 <<< (yp_N k &&& yp_N 31)) = yp_N (2 ^ f + 2 ^ k) := by
  have h1 : ∀ f k : Fin 6, f ≠ k → (yp_N 1 <<< (yp_N f.val &&& yp_N 31)) ||| (yp_N 1 <<< (yp_N k.val &&& yp_N 31)) = yp_N (2 ^ f.val + 2 ^ k.val) := by decide +kernel
  exact h1 ⟨f, hf⟩ ⟨k, hk⟩ (fun e => h (by simpa using e))
set_option maxHeartbeats 1000000 in
theorem yp_p2two {f k n : Nat} (hf : f < n) (hk : k < n) (hn : n ≤ 6) (h : f ≠ k) : 2 ^ f + 2 ^ k < 2 ^ n := by
  have h1 : ∀ n : Fin 7, ∀ f k : Fin 6, f.val < n.val → k.val < n.val → f ≠ k → 2 ^ f.val + 2 ^ k.val < 2 ^ n.val := by decide +kernel
  exact h1 ⟨n, by omega⟩ ⟨f, by omega⟩ ⟨k, by omega⟩ hf hk (fun e => h (by simpa using e))
set_option maxHeartbeats 1000000 in
theorem yp_isWm {Q : yp_EnvT} {H : Nat → Int32} (hH : yp_HI Q H) {nf m : Nat} (hn : nf ≤ 6) (hm : m < 2 ^ nf) : yp_isW H (yp_N m) = if (yp_fo (yp_rsG H (yp_N m) nf) 7 (yp_N 0, yp_N 0)).2 - (yp_fo (yp_rsG H (yp_N m) nf) 7 (yp_N 0, yp_N 0)).1 = yp_N 0 then (if yp_sm (fun f => yp_bt (yp_N m) f * yp_W H f) nf ≤ yp_N 0 then yp_N 0 else yp_N 1) else yp_N 0 := by
  unfold yp_isW
  rw [(yp_sp_eq hH hn hm).1, (yp_sp_eq hH hn hm).2, yp_gv_all hH hn hm]
def yp_maG (H : Nat → Int32) (f k : Nat) (a : Int32) : Int32 := if k = f then a else if yp_isW H (yp_N (2 ^ f + 2 ^ k)) = yp_N 0 then a else a ||| yp_b1 k
set_option maxHeartbeats 1000000 in
theorem yp_p_mates (hR : yp_RCc B mm A) (hI : yp_INV A) (x : Int32) : yp_PM B (fX11_mates (yp_SH B) B x mm) (fun m => fX12_mates (yp_SH B) (B + 517) x m) hcN mm A := by
  have hA := yp_clsS B
  have hX := yp_HSx (yp_hs33 B)
  have hM := yp_mS B
  have hq := hI.1.1
  have c1 := hR.1.1
  rcases yp_c_needF hR hI x with ⟨f, hf, rfl, hc⟩ | ⟨hb, hc⟩
  rotate_left
  · exact yp_PM_e0 hR hI (by simp (disch := omega) only [fX11_mates_j54, fX11_mates_j48, fX11_mates, hA, ↓yp_bdP hc, ↓yp_smL, ↓yp_smR, Nat.reduceAdd, Nat.reduceMul, Nat.reduceSub, Nat.zero_add, Nat.add_zero, yp_LT, yp_nA, yp_nM, yp_ltF, yp_ltT, yp_leF, yp_leT, yp_eqF, eq_self, yp_eqM, lt1, yp_sbN, yp_sb2N, ↓reduceIte, ↓yp_iP11, ↓yp_iP12, ↓yp_m0P]) (fun m hm => by simp (disch := omega) only [fX12_mates_j80, fX12_mates_j72, fX12_mates_j71, fX12_mates, hM, yp_m0e, yp_m_isF0 hm hI hb, Nat.reduceAdd, Nat.reduceMul, Nat.reduceSub, Nat.zero_add, Nat.add_zero, yp_LT, yp_nA, yp_nM, yp_ltF, yp_ltT, yp_leF, yp_leT, yp_eqF, eq_self, yp_eqM, lt1, yp_sbN, yp_sb2N, ↓reduceIte, ↓yp_iP11, ↓yp_iP12, ↓yp_m0P]) rfl
  have hf6 : f < 6 := by omega
  refine yp_PM_tk hR hI (v := yp_fo (yp_maG (yp_sH A) f) (yp_qf (yp_sQ A)) (yp_N 0)) ?_ (fun m m2 hm a1 a2 a3 a4 => ?_)
  · simp (disch := omega) only [fX11_mates_j54, fX11_mates_j48, fX11_mates, hA, ↓yp_bdP hc, ↓yp_smL, ↓yp_smR, Nat.reduceAdd, Nat.reduceMul, Nat.reduceSub, Nat.zero_add, Nat.add_zero, yp_LT, yp_nA, yp_nM, yp_ltF, yp_ltT, yp_leF, yp_leT, yp_eqF, eq_self, yp_eqM, lt1, yp_sbN, yp_sb2N, ↓reduceIte, ↓yp_iP11, ↓yp_iP12, ↓yp_m0P]
    refine Eq.trans (yp_lpB (fun k a => (a, yp_N k)) (yp_maG (yp_sH A) f) (id) (yp_qf (yp_sQ A)) (yp_N 0) (by rw [yp_FUe]; omega) rfl (fun k z hk hz => ?_) (fun z hz => ?_)) ?_
    · by_cases e : k = f
      · simp (disch := omega) only [fX11_mates_b9, fX11_mates_j48, hA, c1, e, yp_maG, Nat.reduceAdd, Nat.reduceMul, Nat.reduceSub, Nat.zero_add, Nat.add_zero, yp_LT, yp_nA, yp_nM, yp_ltF, yp_ltT, yp_leF, yp_leT, yp_eqF, eq_self, yp_eqM, lt1, yp_sbN, yp_sb2N, ↓reduceIte, ↓yp_iP11, ↓yp_iP12, ↓yp_m0P]
      · have e2 := yp_orB f k hf6 (by omega) (fun h => e h.symm)
        have e3 := yp_h_white (yp_hs33 B) hR.2.1 (yp_N (2 ^ f + 2 ^ k))
        simp (disch := omega) only [fX11_mates_b9, fX11_mates_j48, hA, c1, e2, e3, yp_maG, Nat.reduceAdd, Nat.reduceMul, Nat.reduceSub, Nat.zero_add, Nat.add_zero, yp_LT, yp_nA, yp_nM, yp_ltF, yp_ltT, yp_leF, yp_leT, yp_eqF, eq_self, yp_eqM, lt1, yp_sbN, yp_sb2N, ↓reduceIte, ↓yp_iP11, ↓yp_iP12, ↓yp_m0P]
        simp only [e, if_false]
        by_cases e4 : yp_isW (yp_sH A) (yp_N (2 ^ f + 2 ^ k)) = yp_N 0
        · simp only [e4, if_true]
        · simp only [e4, if_false, yp_b1]
    · simp (disch := omega) only [fX11_mates_b9, hA, c1, Nat.reduceAdd, Nat.reduceMul, Nat.reduceSub, Nat.zero_add, Nat.add_zero, yp_LT, yp_nA, yp_nM, yp_ltF, yp_ltT, yp_leF, yp_leT, yp_eqF, eq_self, yp_eqM, lt1, yp_sbN, yp_sb2N, ↓reduceIte, ↓yp_iP11, ↓yp_iP12, ↓yp_m0P]
      rfl
    · simp only [id]
  · have c2 := a3.1
    simp (disch := omega) only [fX12_mates_j80, fX12_mates_j72, fX12_mates_j71, fX12_mates, hM, yp_m0e, yp_m_isF1 hm hI hf, a1, Nat.reduceAdd, Nat.reduceMul, Nat.reduceSub, Nat.zero_add, Nat.add_zero, yp_LT, yp_nA, yp_nM, yp_ltF, yp_ltT, yp_leF, yp_leT, yp_eqF, eq_self, yp_eqM, lt1, yp_sbN, yp_sb2N, ↓reduceIte, ↓yp_iP11, ↓yp_iP12, ↓yp_m0P]
    refine Eq.trans (yp_lpB (fun k a => (a, yp_N k)) (yp_maG (yp_sH A) f) (id) (yp_qf (yp_sQ A)) (yp_N 0) (by rw [yp_FUe]; omega) rfl (fun k z hk hz => ?_) (fun z hz => ?_)) ?_
    · by_cases e : k = f
      · simp (disch := omega) only [fX12_mates_b24, fX12_mates_j71, fX12_mates_j72, hM, c2, e, yp_maG, yp_or0, Nat.reduceAdd, Nat.reduceMul, Nat.reduceSub, Nat.zero_add, Nat.add_zero, yp_LT, yp_nA, yp_nM, yp_ltF, yp_ltT, yp_leF, yp_leT, yp_eqF, eq_self, yp_eqM, lt1, yp_sbN, yp_sb2N, ↓reduceIte, ↓yp_iP11, ↓yp_iP12, ↓yp_m0P]
      · have e2 := yp_orB f k hf6 (by omega) (fun h => e h.symm)
        have hm2 := yp_p2two hf hk hq (fun h => e h.symm)
        have e3 := yp_m_spread a2 c2 hq (yp_N (2 ^ f + 2 ^ k))
        have e4 := yp_m_wAll a2 c2 hq (yp_N (2 ^ f + 2 ^ k))
        have e5 := yp_isWm hI.2.1 hq hm2
        simp (disch := omega) only [fX12_mates_b24, fX12_mates_j71, fX12_mates_j72, hM, c2, e2, e3, e4, yp_maG, yp_or0, Nat.reduceAdd, Nat.reduceMul, Nat.reduceSub, Nat.zero_add, Nat.add_zero, yp_LT, yp_nA, yp_nM, yp_ltF, yp_ltT, yp_leF, yp_leT, yp_eqF, eq_self, yp_eqM, lt1, yp_sbN, yp_sb2N, ↓reduceIte, ↓yp_iP11, ↓yp_iP12, ↓yp_m0P]
        simp only [e, if_false, e5]
        by_cases e6 : (yp_fo (yp_rsG (yp_sH A) (yp_N (2 ^ f + 2 ^ k)) (yp_qf (yp_sQ A))) 7 (yp_N 0, yp_N 0)).2 - (yp_fo (yp_rsG (yp_sH A) (yp_N (2 ^ f + 2 ^ k)) (yp_qf (yp_sQ A))) 7 (yp_N 0, yp_N 0)).1 = yp_N 0
        · simp only [e6, if_true]
          by_cases e7 : yp_sm (fun f_1 => yp_bt (yp_N (2 ^ f + 2 ^ k)) f_1 * yp_W (yp_sH A) f_1) (yp_qf (yp_sQ A)) ≤ yp_N 0
          · simp only [e7, if_true]
          · simp only [e7, if_false, yp_b1, yp_n1]
        · simp only [e6, if_false, if_true]
    · simp (disch := omega) only [fX12_mates_b24, hM, c2, Nat.reduceAdd, Nat.reduceMul, Nat.reduceSub, Nat.zero_add, Nat.add_zero, yp_LT, yp_nA, yp_nM, yp_ltF, yp_ltT, yp_leF, yp_leT, yp_eqF, eq_self, yp_eqM, lt1, yp_sbN, yp_sb2N, ↓reduceIte, ↓yp_iP11, ↓yp_iP12, ↓yp_m0P]
      rfl
    · simp only [id]
end ASK3

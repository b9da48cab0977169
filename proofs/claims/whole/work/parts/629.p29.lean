set_option maxHeartbeats 1000000 in
theorem yp_lt1N {α β : Type} (x : α) (f : α → Option β) : lt1 x f = f x := Eq.trans (Eq.refl _) (Eq.refl _)
section TERM
variable {B : Nat} {mm : Mem} {A : yp_St} {Q : yp_EnvT} {H : Nat → Int32}
set_option maxHeartbeats 1000000 in
theorem yp_rmN {a b : Nat} (ha : a < 2147483648) (hb : b < 2147483648) (h0 : b ≠ 0) : rmI (yp_N a) (yp_N b) = some (yp_N (a % b)) := by
  have e0 : ¬ yp_N b = 0 := by
    rw [show (0 : Int32) = yp_N 0 from rfl, yp_eqN hb (by omega)]
    exact h0
  unfold rmI
  rw [if_neg e0]
  refine congrArg some ?_
  have e1 : yp_N a / yp_N b = yp_N (a / b) := (Int32.ofNat_div (by simpa using ha) (by simpa using hb)).symm
  rw [e1, yp_nM]
  have e3 : yp_N (a % b) + yp_N (a / b * b) = yp_N a := by
    rw [yp_nA, Nat.mul_comm (a / b) b, Nat.mod_add_div]
  rw [← e3, Int32.add_sub_cancel]
def yp_nx (s : Int32) : Int32 := s * 1103515245 + yp_N 12345
noncomputable def yp_mk (s : Int32) : Nat := Classical.choose (yp_mask_r (s >>> (yp_N 16 &&& yp_N 31)) 15 (by omega))
set_option maxHeartbeats 1000000 in
theorem yp_mk_lt (s : Int32) : yp_mk s < 32768 := (Classical.choose_spec (yp_mask_r (s >>> (yp_N 16 &&& yp_N 31)) 15 (by omega))).1
set_option maxHeartbeats 1000000 in
theorem yp_mk_e (s : Int32) : (s >>> (yp_N 16 &&& yp_N 31)) &&& yp_N 32767 = yp_N (yp_mk s) := (Classical.choose_spec (yp_mask_r (s >>> (yp_N 16 &&& yp_N 31)) 15 (by omega))).2
set_option maxHeartbeats 1000000 in
theorem yp_mk_u (s : Int32) : uShr s (yp_N 16) &&& yp_N 32767 = yp_N (yp_mk s) := by
  rw [← yp_mk_e s]
  exact yp_ushr_ashr s 16 15 (by omega) (by omega)
set_option maxHeartbeats 1000000 in
theorem yp_trmS (B : Nat) : rR (yp_SH B) 9 (B + 510) 0 = some (B + 3) ∧ rR (yp_SH B) 9 (B + 510) 1 = some (B + 23) ∧ rR (yp_SH B) 9 (B + 510) 2 = some (B + 511) ∧ isO (yp_SH B) 9 (B + 510) = some () ∧ (∀ mm k, rI (yp_SH B) mm 9 (B + 510) k = some (mm (B + 510) k)) ∧ (∀ mm k v, wI (yp_SH B) mm 9 (B + 510) k v = some (up2 mm (B + 510) k v)) ∧ (∀ mm k, rI (yp_SH B) mm 1 (B + 3) k = some (mm (B + 3) k)) ∧ isO (yp_SH B) 5 (B + 23) = some () ∧ isO (yp_SH B) 2 (B + 511) = some () ∧ rR (yp_SH B) 11 B 15 = some (B + 510) := by
  refine ⟨?_, ?_, ?_, ?_, ?_, ?_, ?_, ?_, (yp_HSx (yp_hs511 B)).1.2.1, ?_⟩
  all_goals first | (rw [rR, yp_so510]; rfl) | (rw [isO, yp_so510]; rfl) | (rw [isO, yp_so23]; rfl) | (intro mm k; rw [rI, yp_so510]; rfl) | (intro mm k v; rw [wI, yp_so510]; rfl) | (intro mm k; rw [rI, yp_so3]; rfl) | (rw [rR, yp_so00]; rfl)
set_option maxHeartbeats 1000000 in
theorem yp_c_draw {m : Mem} {s : Int32} (hs : m (B + 510) 3 = s) (n : Nat) (h1 : 1 ≤ n) (hn : n ≤ 100) : fX9_draw (yp_SH B) (B + 510) (yp_N n) m = some (yp_N (yp_mk (yp_nx s) % n), up2 m (B + 510) 3 (yp_nx s)) := by
  have hT := yp_trmS B
  have e1 := yp_mk_u (yp_nx s)
  have e2 := yp_rmN (a := yp_mk (yp_nx s)) (b := n) (by have := yp_mk_lt (yp_nx s); omega) (by omega) (by omega)
  have e3 : s * 1103515245 + yp_N 12345 = yp_nx s := rfl
  simp (disch := omega) only [fX9_draw_j37, fX9_draw, hT, hs, e3, yp_up2_s, e1, e2, Nat.reduceAdd, Nat.reduceMul, Nat.reduceSub, Nat.zero_add, Nat.add_zero, yp_LT, yp_nA, yp_nM, yp_ltF, yp_ltT, yp_leF, yp_leT, yp_eqF, eq_self, yp_eqM, lt1, yp_sbN, yp_sb2N, ↓reduceIte, ↓yp_iP11, ↓yp_iP12, ↓yp_m0P]
set_option maxHeartbeats 1000000 in
theorem yp_m_draw {m : Mem} {s : Int32} (hs : m (B + 517) 47 = s) (n : Nat) (h1 : 1 ≤ n) (hn : n ≤ 100) : fX12_draws (yp_SH B) (B + 517) (yp_N n) m = some (yp_N (yp_mk (yp_nx s) % n), up2 m (B + 517) 47 (yp_nx s)) := by
  have hM := yp_mS B
  have e1 := yp_mk_e (yp_nx s)
  have e2 := yp_rmN (a := yp_mk (yp_nx s)) (b := n) (by have := yp_mk_lt (yp_nx s); omega) (by omega) (by omega)
  have e3 : s * 1103515245 + yp_N 12345 = yp_nx s := rfl
  simp (disch := omega) only [fX12_draws, hM, hs, e3, yp_up2_s, e1, e2, Nat.reduceAdd, Nat.reduceMul, Nat.reduceSub, Nat.zero_add, Nat.add_zero, yp_LT, yp_nA, yp_nM, yp_ltF, yp_ltT, yp_leF, yp_leT, yp_eqF, eq_self, yp_eqM, lt1, yp_sbN, yp_sb2N, ↓reduceIte, ↓yp_iP11, ↓yp_iP12, ↓yp_m0P]
noncomputable def yp_partJ (Q : yp_EnvT) (H : Nat → Int32) (f g : Nat) : Nat → Int32 := @ite _ (yp_doesP Q H f g) (Classical.propDecidable _) (yp_prt Q H f g) (yp_jnd Q H f g)
set_option maxHeartbeats 1000000 in
theorem yp_partJ1 {f g : Nat} (h : yp_doesP Q H f g) : yp_partJ Q H f g = yp_prt Q H f g := by unfold yp_partJ; exact if_pos h
set_option maxHeartbeats 1000000 in
theorem yp_partJ0 {f g : Nat} (h : ¬ yp_doesP Q H f g) : yp_partJ Q H f g = yp_jnd Q H f g := by unfold yp_partJ; exact if_neg h
def yp_takeJ (H : Nat → Int32) (c : Nat) : Nat → Int32 := if yp_N 1 ≤ H c then yp_mov H c (126 + c) (yp_N 1) else H
noncomputable def yp_loseJ (Q : yp_EnvT) (q : Nat) (H : Nat → Int32) (s : Int32) : (Nat → Int32) × Int32 := if q ≤ yp_mk (yp_nx s) % 16 then (H, yp_nx s) else (yp_takeJ H (yp_mk (yp_nx (yp_nx s)) % yp_qf Q * 7 + yp_mk (yp_nx (yp_nx (yp_nx s))) % 7), yp_nx (yp_nx (yp_nx s)))
noncomputable def yp_tmG (Q : yp_EnvT) (q : Nat) (st : (Nat → Int32) × Int32) : (Nat → Int32) × Int32 := if yp_qf Q = 0 ∨ yp_qg Q = 0 then (yp_dayH st.1, st.2) else (yp_dayH (yp_loseJ Q q (yp_partJ Q st.1 (yp_mk (yp_nx st.2) % yp_qf Q) (yp_mk (yp_nx (yp_nx st.2)) % yp_qg Q)) (yp_nx (yp_nx st.2))).1, (yp_loseJ Q q (yp_partJ Q st.1 (yp_mk (yp_nx st.2) % yp_qf Q) (yp_mk (yp_nx (yp_nx st.2)) % yp_qg Q)) (yp_nx (yp_nx st.2))).2)
set_option maxHeartbeats 1000000 in
theorem yp_HI.partJ (hE : yp_EV Q) (hH : yp_HI Q H) (f g : Nat) (hf : f < 6) : yp_HI Q (yp_partJ Q H f g) := by
  by_cases h : yp_doesP Q H f g
  · rw [yp_partJ1 h]; exact hH.prt hE f g hf
  · rw [yp_partJ0 h]; exact hH.jnd f g hf
set_option maxHeartbeats 1000000 in
theorem yp_HI.takeJ (hH : yp_HI Q H) (c : Nat) (hc : c < 42) : yp_HI Q (yp_takeJ H c) := by
  unfold yp_takeJ
  split
  · exact hH.take c hc (yp_N 1) (by rw [yp_ti1]; omega) (by assumption)
  · exact hH
set_option maxHeartbeats 1000000 in
theorem yp_HI.loseJ (hE : yp_EV Q) (hH : yp_HI Q H) (q : Nat) (s : Int32) (h0 : 1 ≤ yp_qf Q) : yp_HI Q (yp_loseJ Q q H s).1 := by
  unfold yp_loseJ
  split
  · exact hH
  · have h1 := Nat.mod_lt (yp_mk (yp_nx (yp_nx s))) (show yp_qf Q > 0 by omega)
    have h2 := Nat.mod_lt (yp_mk (yp_nx (yp_nx (yp_nx s)))) (show 7 > 0 by omega)
    have h3 := hE.1
    exact hH.takeJ _ (by omega)
set_option maxHeartbeats 1000000 in
theorem yp_HI.tmG (hE : yp_EV Q) (q : Nat) (st : (Nat → Int32) × Int32) (hH : yp_HI Q st.1) : yp_HI Q (yp_tmG Q q st).1 := by
  unfold yp_tmG
  split
  · exact hH.day
  · have h3 := hE.1
    have h1 := Nat.mod_lt (yp_mk (yp_nx st.2)) (show yp_qf Q > 0 by omega)
    exact (yp_HI.loseJ hE (hH.partJ hE _ _ (by omega)) q _ (by omega)).day
def yp_TT (B : Nat) : Nat → Nat → Prop := fun a j => a = B + 13 ∨ a = B + 24 ∨ a = B + 25 ∨ (B + 511 ≤ a ∧ a ≤ B + 516) ∨ (a = B + 510 ∧ j = 3)
set_option maxHeartbeats 1000000 in
theorem yp_c_pass {m : Mem} {s : Int32} (hE : yp_EV Q) (hC : yp_CLc B m Q) (hH : yp_HC m (B + 511) H) (hs : m (B + 510) 3 = s) (h1 : 1 ≤ yp_qf Q) (h2 : 1 ≤ yp_qg Q) : ∃ m', fX9_passThroughGlass (yp_SH B) (B + 510) m = some m' ∧ yp_HC m' (B + 511) (yp_partJ Q H (yp_mk (yp_nx s) % yp_qf Q) (yp_mk (yp_nx (yp_nx s)) % yp_qg Q)) ∧ m' (B + 510) 3 = yp_nx (yp_nx s) ∧ yp_Fr (yp_TT B) m m' := by
  have hT := yp_trmS B
  have q1 := hE.1
  have q2 := hE.2.1
  have l1 := Nat.mod_lt (yp_mk (yp_nx s)) (show yp_qf Q > 0 by omega)
  have l2 := Nat.mod_lt (yp_mk (yp_nx (yp_nx s))) (show yp_qg Q > 0 by omega)
  have c1 := hC.1
  have d1 := yp_c_draw hs (yp_qf Q) h1 (by omega)
  obtain ⟨m1, hm1⟩ : ∃ m', m' = up2 m (B + 510) 3 (yp_nx s) := ⟨_, rfl⟩
  rw [← hm1] at d1
  have f1 : yp_Fr (yp_TT B) m m1 := by rw [hm1]; exact yp_Fr.rf.up (.inr (.inr (.inr (.inr ⟨rfl, rfl⟩))))
  have s1 : m1 (B + 510) 3 = yp_nx s := by rw [hm1, yp_up2_s]
  have c2 : m1 (B + 3) 4 = yp_N (yp_qg Q) := (f1 _ _ (by unfold yp_TT; omega)).trans hC.2.1
  have d2 := yp_c_draw s1 (yp_qg Q) h2 (by omega)
  obtain ⟨m2, hm2⟩ : ∃ m', m' = up2 m1 (B + 510) 3 (yp_nx (yp_nx s)) := ⟨_, rfl⟩
  rw [← hm2] at d2
  have f2 : yp_Fr (yp_TT B) m m2 := by rw [hm2]; exact f1.up (.inr (.inr (.inr (.inr ⟨rfl, rfl⟩))))
  have s2 : m2 (B + 510) 3 = yp_nx (yp_nx s) := by rw [hm2, yp_up2_s]
  have hC2 : yp_CLc B m2 Q := hC.fr (fun a j h => f2 a j (by unfold yp_TT; omega))
  have hH2 : yp_HC m2 (B + 511) H := hH.same (fun a j p1 p2 => by rw [hm2, yp_up2_n _ _ (by omega), hm1, yp_up2_n _ _ (by omega)])
  rcases yp_c_partBy hE hC2 (yp_hs511 B) hH2 (by omega) (yp_mk (yp_nx s) % yp_qf Q) (yp_mk (yp_nx (yp_nx s)) % yp_qg Q) (by omega) l2 with ⟨g1, g2⟩ | ⟨g1, m3, g2, g3, g4⟩
  · obtain ⟨m4, j1, j2, j3⟩ := yp_c_joinBy hE hC2 (yp_hs511 B) hH2 (by omega) (yp_mk (yp_nx s) % yp_qf Q) (yp_mk (yp_nx (yp_nx s)) % yp_qg Q) (by omega) l2
    rw [yp_partJ0 g1]
    exact ⟨m4, by simp (disch := omega) only [fX9_passThroughGlass_j54, fX9_passThroughGlass, hT, c1, d1, c2, d2, g2, j1, Nat.reduceAdd, Nat.reduceMul, Nat.reduceSub, Nat.zero_add, Nat.add_zero, yp_LT, yp_nA, yp_nM, yp_ltF, yp_ltT, yp_leF, yp_leT, yp_eqF, eq_self, yp_eqM, lt1, yp_sbN, yp_sb2N, ↓reduceIte, ↓yp_iP11, ↓yp_iP12, ↓yp_m0P], j2, (j3 _ _ (by unfold yp_TP; omega)).trans s2, f2.tr (j3.mono (fun a j h => by unfold yp_TP at h; unfold yp_TT; omega))⟩
  · rw [yp_partJ1 g1]
    exact ⟨m3, by simp (disch := omega) only [fX9_passThroughGlass_j54, fX9_passThroughGlass, hT, c1, d1, c2, d2, g2, Nat.reduceAdd, Nat.reduceMul, Nat.reduceSub, Nat.zero_add, Nat.add_zero, yp_LT, yp_nA, yp_nM, yp_ltF, yp_ltT, yp_leF, yp_leT, yp_eqF, eq_self, yp_eqM, lt1, yp_sbN, yp_sb2N, ↓reduceIte, ↓yp_iP11, ↓yp_iP12, ↓yp_m0P], g3, (g4 _ _ (by unfold yp_TP; omega)).trans s2, f2.tr (g4.mono (fun a j h => by unfold yp_TP at h; unfold yp_TT; omega))⟩
set_option maxHeartbeats 1000000 in
theorem yp_c_lose {m : Mem} {s : Int32} (hE : yp_EV Q) (hC : yp_CLc B m Q) (hH : yp_HC m (B + 511) H) (hs : m (B + 510) 3 = s) (h1 : 1 ≤ yp_qf Q) (q : Nat) (hq : q ≤ 16) : ∃ m', fX9_loseByChance (yp_SH B) (B + 510) (yp_N q) m = some m' ∧ yp_HC m' (B + 511) (yp_loseJ Q q H s).1 ∧ m' (B + 510) 3 = (yp_loseJ Q q H s).2 ∧ yp_Fr (yp_TT B) m m' := by
  have hT := yp_trmS B
  have q1 := hE.1
  have d1 := yp_c_draw hs 16 (by omega) (by omega)
  obtain ⟨m1, hm1⟩ : ∃ m', m' = up2 m (B + 510) 3 (yp_nx s) := ⟨_, rfl⟩
  rw [← hm1] at d1
  have f1 : yp_Fr (yp_TT B) m m1 := by rw [hm1]; exact yp_Fr.rf.up (.inr (.inr (.inr (.inr ⟨rfl, rfl⟩))))
  have s1 : m1 (B + 510) 3 = yp_nx s := by rw [hm1, yp_up2_s]
  have hH1 : yp_HC m1 (B + 511) H := hH.same (fun a j p1 p2 => by rw [hm1, yp_up2_n _ _ (by omega)])
  have l0 := Nat.mod_lt (yp_mk (yp_nx s)) (show 16 > 0 by omega)
  by_cases e : q ≤ yp_mk (yp_nx s) % 16
  · have eL : yp_loseJ Q q H s = (H, yp_nx s) := by unfold yp_loseJ; rw [if_pos e]
    rw [eL]
    exact ⟨m1, by simp (disch := omega) only [fX9_loseByChance_j44, fX9_loseByChance, hT, d1, Nat.reduceAdd, Nat.reduceMul, Nat.reduceSub, Nat.zero_add, Nat.add_zero, yp_LT, yp_nA, yp_nM, yp_ltF, yp_ltT, yp_leF, yp_leT, yp_eqF, eq_self, yp_eqM, lt1, yp_sbN, yp_sb2N, ↓reduceIte, ↓yp_iP11, ↓yp_iP12, ↓yp_m0P], hH1, s1, f1⟩
  · have eL : yp_loseJ Q q H s = (yp_takeJ H (yp_mk (yp_nx (yp_nx s)) % yp_qf Q * 7 + yp_mk (yp_nx (yp_nx (yp_nx s))) % 7), yp_nx (yp_nx (yp_nx s))) := by unfold yp_loseJ; rw [if_neg e]
    rw [eL]
    have l1 := Nat.mod_lt (yp_mk (yp_nx (yp_nx s))) (show yp_qf Q > 0 by omega)
    have l2 := Nat.mod_lt (yp_mk (yp_nx (yp_nx (yp_nx s)))) (show 7 > 0 by omega)
    have c2 : m1 (B + 3) 3 = yp_N (yp_qf Q) := (f1 _ _ (by unfold yp_TT; omega)).trans hC.1
    have d2 := yp_c_draw s1 (yp_qf Q) h1 (by omega)
    obtain ⟨m2, hm2⟩ : ∃ m', m' = up2 m1 (B + 510) 3 (yp_nx (yp_nx s)) := ⟨_, rfl⟩
    rw [← hm2] at d2
    have s2 : m2 (B + 510) 3 = yp_nx (yp_nx s) := by rw [hm2, yp_up2_s]
    have d3 := yp_c_draw s2 7 (by omega) (by omega)
    obtain ⟨m3, hm3⟩ : ∃ m', m' = up2 m2 (B + 510) 3 (yp_nx (yp_nx (yp_nx s))) := ⟨_, rfl⟩
    rw [← hm3] at d3
    have s3 : m3 (B + 510) 3 = yp_nx (yp_nx (yp_nx s)) := by rw [hm3, yp_up2_s]
    have f3 : yp_Fr (yp_TT B) m m3 := by
      rw [hm3, hm2]
      exact (f1.up (.inr (.inr (.inr (.inr ⟨rfl, rfl⟩))))).up (.inr (.inr (.inr (.inr ⟨rfl, rfl⟩))))
    have hH3 : yp_HC m3 (B + 511) H := hH1.same (fun a j p1 p2 => by rw [hm3, yp_up2_n _ _ (by omega), hm2, yp_up2_n _ _ (by omega)])
    rcases yp_h_take (yp_hs511 B) hH3 (yp_mk (yp_nx (yp_nx s)) % yp_qf Q * 7 + yp_mk (yp_nx (yp_nx (yp_nx s))) % 7) (yp_N 1) (by omega) with ⟨g1, g2⟩ | ⟨g1, m4, g2, g3, g4⟩
    · refine ⟨m3, ?_, ?_, s3, f3⟩
      · simp (disch := omega) only [fX9_loseByChance_j44, fX9_loseByChance, hT, d1, c2, d2, d3, g2, Nat.reduceAdd, Nat.reduceMul, Nat.reduceSub, Nat.zero_add, Nat.add_zero, yp_LT, yp_nA, yp_nM, yp_ltF, yp_ltT, yp_leF, yp_leT, yp_eqF, eq_self, yp_eqM, lt1, yp_sbN, yp_sb2N, ↓reduceIte, ↓yp_iP11, ↓yp_iP12, ↓yp_m0P]
      · have : yp_takeJ H (yp_mk (yp_nx (yp_nx s)) % yp_qf Q * 7 + yp_mk (yp_nx (yp_nx (yp_nx s))) % 7) = H := by unfold yp_takeJ; rw [if_neg g1]
        rw [this]
        exact hH3
    · refine ⟨m4, ?_, ?_, (g4 _ _ (by unfold yp_IH; omega)).trans s3, f3.tr (g4.mono (fun a j h => by unfold yp_IH at h; unfold yp_TT; omega))⟩
      · simp (disch := omega) only [fX9_loseByChance_j44, fX9_loseByChance, hT, d1, c2, d2, d3, g2, Nat.reduceAdd, Nat.reduceMul, Nat.reduceSub, Nat.zero_add, Nat.add_zero, yp_LT, yp_nA, yp_nM, yp_ltF, yp_ltT, yp_leF, yp_leT, yp_eqF, eq_self, yp_eqM, lt1, yp_sbN, yp_sb2N, ↓reduceIte, ↓yp_iP11, ↓yp_iP12, ↓yp_m0P]
      · have : yp_takeJ H (yp_mk (yp_nx (yp_nx s)) % yp_qf Q * 7 + yp_mk (yp_nx (yp_nx (yp_nx s))) % 7) = yp_mov H (yp_mk (yp_nx (yp_nx s)) % yp_qf Q * 7 + yp_mk (yp_nx (yp_nx (yp_nx s))) % 7) (126 + (yp_mk (yp_nx (yp_nx s)) % yp_qf Q * 7 + yp_mk (yp_nx (yp_nx (yp_nx s))) % 7)) (yp_N 1) := by unfold yp_takeJ; rw [if_pos g1]
        rw [this]
        exact g3
set_option maxHeartbeats 1000000 in
theorem yp_c_run (hE : yp_EV Q) (hC : yp_CLc B mm Q) (hH : yp_HC mm (B + 33) H) (s : Int32) (q n : Nat) (hq : q ≤ 16) (hn : n ≤ 48) : ∃ m', fX9_run (yp_SH B) (B + 510) (B + 33) s (yp_N q) (yp_N n) mm = some m' ∧ yp_HC m' (B + 511) (yp_fo (fun _ st => yp_tmG Q q st) n (H, s)).1 ∧ yp_Fr (yp_TT B) mm m' := by
  have hT := yp_trmS B
  obtain ⟨m1, e1, e2, e3⟩ := yp_h_copy (yp_hs511 B) (yp_hs33 B) hH (by omega)
  obtain ⟨m2, hm2⟩ : ∃ m', m' = up2 m1 (B + 510) 3 s := ⟨_, rfl⟩
  have f2 : yp_Fr (yp_TT B) mm m2 := by
    rw [hm2]
    exact (e3.mono (fun a j h => by unfold yp_IH at h; unfold yp_TT; omega)).up (.inr (.inr (.inr (.inr ⟨rfl, rfl⟩))))
  have h2 : yp_HC m2 (B + 511) H := e2.same (fun a j p1 p2 => by rw [hm2, yp_up2_n _ _ (by omega)])
  have s2 : m2 (B + 510) 3 = s := by rw [hm2, yp_up2_s]
  obtain ⟨m', g1, g2, g3⟩ := yp_lpI (step := fun st : Int32 × Mem => fX9_run_b16 (yp_SH B) (B + 510) (yp_N q) (yp_N n) st.1 st.2) (fun k st => ∃ m, st = (yp_N k, m) ∧ yp_HC m (B + 511) (yp_fo (fun _ st => yp_tmG Q q st) k (H, s)).1 ∧ m (B + 510) 3 = (yp_fo (fun _ st => yp_tmG Q q st) k (H, s)).2 ∧ yp_Fr (yp_TT B) mm m) (fun m => yp_HC m (B + 511) (yp_fo (fun _ st => yp_tmG Q q st) n (H, s)).1 ∧ yp_Fr (yp_TT B) mm m) n (fun k st hk hJ => by
    obtain ⟨m, rfl, j1, j2, j3⟩ := hJ
    by_cases e : k = n
    · subst e
      exact .inr ⟨m, by simp (disch := omega) only [fX9_run_b16, Nat.reduceAdd, Nat.reduceMul, Nat.reduceSub, Nat.zero_add, Nat.add_zero, yp_LT, yp_nA, yp_nM, yp_ltF, yp_ltT, yp_leF, yp_leT, yp_eqF, eq_self, yp_eqM, lt1, yp_sbN, yp_sb2N, ↓reduceIte, ↓yp_iP11, ↓yp_iP12, ↓yp_m0P], j1, j3⟩
    · rw [yp_fo_s]
      generalize yp_fo (fun _ st => yp_tmG Q q st) k (H, s) = st at j1 j2
      have c1 : m (B + 3) 3 = yp_N (yp_qf Q) := (j3 _ _ (by unfold yp_TT; omega)).trans hC.1
      have c2 : m (B + 3) 4 = yp_N (yp_qg Q) := (j3 _ _ (by unfold yp_TT; omega)).trans hC.2.1
      have q1 := hE.1
      have q2 := hE.2.1
      by_cases h0 : yp_qf Q = 0 ∨ yp_qg Q = 0
      · have eT : yp_tmG Q q st = (yp_dayH st.1, st.2) := by unfold yp_tmG; rw [if_pos h0]
        obtain ⟨m3, p1, p2, p3⟩ := yp_h_day (yp_hs511 B) j1
        rw [eT]
        refine .inl ⟨by omega, (yp_N (k + 1), m3), ?_, m3, rfl, p2, (p3 _ _ (by unfold yp_IH; omega)).trans j2, j3.tr (p3.mono (fun a j h => by unfold yp_IH at h; unfold yp_TT; omega))⟩
        by_cases h00 : yp_qf Q = 0
        · simp (disch := omega) only [fX9_run_b16, fX9_run_j52, hT, c1, c2, h00, p1, Nat.reduceAdd, Nat.reduceMul, Nat.reduceSub, Nat.zero_add, Nat.add_zero, yp_LT, yp_nA, yp_nM, yp_ltF, yp_ltT, yp_leF, yp_leT, yp_eqF, eq_self, yp_eqM, lt1, yp_sbN, yp_sb2N, ↓reduceIte, ↓yp_iP11, ↓yp_iP12, ↓yp_m0P]
        · have h01 : yp_qg Q = 0 := h0.resolve_left h00
          simp (disch := omega) only [fX9_run_b16, fX9_run_j52, hT, c1, c2, h01, p1, Nat.reduceAdd, Nat.reduceMul, Nat.reduceSub, Nat.zero_add, Nat.add_zero, yp_LT, yp_nA, yp_nM, yp_ltF, yp_ltT, yp_leF, yp_leT, yp_eqF, eq_self, yp_eqM, lt1, yp_sbN, yp_sb2N, ↓reduceIte, ↓yp_iP11, ↓yp_iP12, ↓yp_m0P]
      · have hC1 : yp_CLc B m Q := hC.fr (fun a j h => j3 a j (by unfold yp_TT; omega))
        obtain ⟨m3, p1, p2, p3, p4⟩ := yp_c_pass hE hC1 j1 j2 (by omega) (by omega)
        have hC3 : yp_CLc B m3 Q := hC1.fr (fun a j h => p4 a j (by unfold yp_TT; omega))
        obtain ⟨m4, r1, r2, r3, r4⟩ := yp_c_lose hE hC3 p2 p3 (by omega) q hq
        obtain ⟨m5, t1, t2, t3⟩ := yp_h_day (yp_hs511 B) r2
        have eT : yp_tmG Q q st = (yp_dayH (yp_loseJ Q q (yp_partJ Q st.1 (yp_mk (yp_nx st.2) % yp_qf Q) (yp_mk (yp_nx (yp_nx st.2)) % yp_qg Q)) (yp_nx (yp_nx st.2))).1, (yp_loseJ Q q (yp_partJ Q st.1 (yp_mk (yp_nx st.2) % yp_qf Q) (yp_mk (yp_nx (yp_nx st.2)) % yp_qg Q)) (yp_nx (yp_nx st.2))).2) := by unfold yp_tmG; rw [if_neg h0]
        rw [eT]
        refine .inl ⟨by omega, (yp_N (k + 1), m5), ?_, m5, rfl, t2, (t3 _ _ (by unfold yp_IH; omega)).trans r3, ((j3.tr p4).tr r4).tr (t3.mono (fun a j h => by unfold yp_IH at h; unfold yp_TT; omega))⟩
        simp (disch := omega) only [fX9_run_b16, fX9_run_j52, hT, c1, c2, p1, r1, t1, Nat.reduceAdd, Nat.reduceMul, Nat.reduceSub, Nat.zero_add, Nat.add_zero, yp_LT, yp_nA, yp_nM, yp_ltF, yp_ltT, yp_leF, yp_leT, yp_eqF, eq_self, yp_eqM, lt1, yp_sbN, yp_sb2N, ↓reduceIte, ↓yp_iP11, ↓yp_iP12, ↓yp_m0P]) (show n < FU by rw [yp_FUe]; omega) (s0 := (yp_N 0, m2)) ⟨m2, rfl, h2, s2, f2⟩
  exact ⟨m', by simp (disch := omega) only [fX9_run_j65, fX9_run_j52, fX9_run, hT, e1, ← hm2, g1, Nat.reduceAdd, Nat.reduceMul, Nat.reduceSub, Nat.zero_add, Nat.add_zero, yp_LT, yp_nA, yp_nM, yp_ltF, yp_ltT, yp_leF, yp_leT, yp_eqF, eq_self, yp_eqM, lt1, yp_sbN, yp_sb2N, ↓reduceIte, ↓yp_iP11, ↓yp_iP12, ↓yp_m0P], g2, g3⟩
def yp_TU (B : Nat) : Nat → Nat → Prop := fun a j => a = B + 528 ∨ a = B + 529 ∨ a = B + 535 ∨ a = B + 533 ∨ (a = B + 517 ∧ j = 47)
set_option maxHeartbeats 1000000 in
theorem yp_m_lose {m : Mem} {s : Int32} (hE : yp_EV Q) (hC : yp_CLm B m Q) (hM0 : yp_HM m (B + 533) H) (hs : m (B + 517) 47 = s) (h1 : 1 ≤ yp_qf Q) (q : Nat) (hq : q ≤ 16) (n k : Int32) : ∃ m', fX12_termGoes_j72 (yp_SH B) (B + 517) (yp_N q) n k m = (fX12_termGoes_j123 (yp_SH B) (B + 517) (yp_N q) n k m') ∧ yp_HM m' (B + 533) (yp_loseJ Q q H s).1 ∧ m' (B + 517) 47 = (yp_loseJ Q q H s).2 ∧ yp_Fr (yp_TU B) m m' := by
  have hM := yp_mS B
  have q1 := hE.1
  have d1 := yp_m_draw hs 16 (by omega) (by omega)
  obtain ⟨m1, hm1⟩ : ∃ m', m' = up2 m (B + 517) 47 (yp_nx s) := ⟨_, rfl⟩
  rw [← hm1] at d1
  have f1 : yp_Fr (yp_TU B) m m1 := by rw [hm1]; exact yp_Fr.rf.up (.inr (.inr (.inr (.inr ⟨rfl, rfl⟩))))
  have s1 : m1 (B + 517) 47 = yp_nx s := by rw [hm1, yp_up2_s]
  have hH1 : yp_HM m1 (B + 533) H := hM0.same (fun j => by rw [hm1, yp_up2_n _ _ (by omega)])
  have l0 := Nat.mod_lt (yp_mk (yp_nx s)) (show 16 > 0 by omega)
  by_cases e : q ≤ yp_mk (yp_nx s) % 16
  · have eL : yp_loseJ Q q H s = (H, yp_nx s) := by unfold yp_loseJ; rw [if_pos e]
    rw [eL]
    exact ⟨m1, by simp (disch := omega) only [fX12_termGoes_j72, hM, d1, Nat.reduceAdd, Nat.reduceMul, Nat.reduceSub, Nat.zero_add, Nat.add_zero, yp_LT, yp_nA, yp_nM, yp_ltF, yp_ltT, yp_leF, yp_leT, yp_eqF, eq_self, yp_eqM, yp_lt1N, yp_sbN, yp_sb2N, ↓reduceIte, ↓yp_iP11, ↓yp_iP12, ↓yp_m0P], hH1, s1, f1⟩
  · have eL : yp_loseJ Q q H s = (yp_takeJ H (yp_mk (yp_nx (yp_nx s)) % yp_qf Q * 7 + yp_mk (yp_nx (yp_nx (yp_nx s))) % 7), yp_nx (yp_nx (yp_nx s))) := by unfold yp_loseJ; rw [if_neg e]
    rw [eL]
    have l1 := Nat.mod_lt (yp_mk (yp_nx (yp_nx s))) (show yp_qf Q > 0 by omega)
    have l2 := Nat.mod_lt (yp_mk (yp_nx (yp_nx (yp_nx s)))) (show 7 > 0 by omega)
    have c2 : m1 (B + 517) 17 = yp_N (yp_qf Q) := (f1 _ _ (by unfold yp_TU; omega)).trans hC.1
    have d2 := yp_m_draw s1 (yp_qf Q) h1 (by omega)
    obtain ⟨m2, hm2⟩ : ∃ m', m' = up2 m1 (B + 517) 47 (yp_nx (yp_nx s)) := ⟨_, rfl⟩
    rw [← hm2] at d2
    have s2 : m2 (B + 517) 47 = yp_nx (yp_nx s) := by rw [hm2, yp_up2_s]
    have d3 := yp_m_draw s2 7 (by omega) (by omega)
    obtain ⟨m3, hm3⟩ : ∃ m', m' = up2 m2 (B + 517) 47 (yp_nx (yp_nx (yp_nx s))) := ⟨_, rfl⟩
    rw [← hm3] at d3
    have s3 : m3 (B + 517) 47 = yp_nx (yp_nx (yp_nx s)) := by rw [hm3, yp_up2_s]
    have f3 : yp_Fr (yp_TU B) m m3 := by
      rw [hm3, hm2]
      exact (f1.up (.inr (.inr (.inr (.inr ⟨rfl, rfl⟩))))).up (.inr (.inr (.inr (.inr ⟨rfl, rfl⟩))))
    have hH3 : yp_HM m3 (B + 533) H := hH1.same (fun j => by rw [hm3, yp_up2_n _ _ (by omega), hm2, yp_up2_n _ _ (by omega)])
    rcases yp_m_moved hH3 (yp_mk (yp_nx (yp_nx s)) % yp_qf Q * 7 + yp_mk (yp_nx (yp_nx (yp_nx s))) % 7) (126 + (yp_mk (yp_nx (yp_nx s)) % yp_qf Q * 7 + yp_mk (yp_nx (yp_nx (yp_nx s))) % 7)) (yp_N 1) (by omega) (by omega) (by omega) with ⟨g1, g2⟩ | ⟨g1, m4, g2, g3, g4⟩
    · refine ⟨m3, ?_, ?_, s3, f3⟩
      · simp (disch := omega) only [fX12_termGoes_j72, hM, d1, c2, d2, d3, yp_m_in, g2, Nat.reduceAdd, Nat.reduceMul, Nat.reduceSub, Nat.zero_add, Nat.add_zero, yp_LT, yp_nA, yp_nM, yp_ltF, yp_ltT, yp_leF, yp_leT, yp_eqF, eq_self, yp_eqM, yp_lt1N, yp_sbN, yp_sb2N, ↓reduceIte, ↓yp_iP11, ↓yp_iP12, ↓yp_m0P]
      · have : yp_takeJ H (yp_mk (yp_nx (yp_nx s)) % yp_qf Q * 7 + yp_mk (yp_nx (yp_nx (yp_nx s))) % 7) = H := by unfold yp_takeJ; rw [if_neg g1]
        rw [this]
        exact hH3
    · refine ⟨m4, ?_, ?_, (g4 _ _ (by unfold yp_FS; omega)).trans s3, f3.tr (g4.mono (fun a j h => by unfold yp_FS at h; unfold yp_TU; omega))⟩
      · simp (disch := omega) only [fX12_termGoes_j72, hM, d1, c2, d2, d3, yp_m_in, g2, Nat.reduceAdd, Nat.reduceMul, Nat.reduceSub, Nat.zero_add, Nat.add_zero, yp_LT, yp_nA, yp_nM, yp_ltF, yp_ltT, yp_leF, yp_leT, yp_eqF, eq_self, yp_eqM, yp_lt1N, yp_sbN, yp_sb2N, ↓reduceIte, ↓yp_iP11, ↓yp_iP12, ↓yp_m0P]
      · have : yp_takeJ H (yp_mk (yp_nx (yp_nx s)) % yp_qf Q * 7 + yp_mk (yp_nx (yp_nx (yp_nx s))) % 7) = yp_mov H (yp_mk (yp_nx (yp_nx s)) % yp_qf Q * 7 + yp_mk (yp_nx (yp_nx (yp_nx s))) % 7) (126 + (yp_mk (yp_nx (yp_nx s)) % yp_qf Q * 7 + yp_mk (yp_nx (yp_nx (yp_nx s))) % 7)) (yp_N 1) := by unfold yp_takeJ; rw [if_pos g1]
        rw [this]
        exact g3
set_option maxHeartbeats 1000000 in
theorem yp_m_run {m : Mem} (hE : yp_EV Q) (hC : yp_CLm B m Q) (hH0 : yp_HI Q H) (hN : yp_HM m (B + 532) H) (s : Int32) (q n : Nat) (hq : q ≤ 16) (hn : n ≤ 48) : ∃ m', fX12_termGoes (yp_SH B) (B + 517) s (yp_N q) (yp_N n) m = some m' ∧ yp_HM m' (B + 533) (yp_fo (fun _ st => yp_tmG Q q st) n (H, s)).1 ∧ yp_HI Q (yp_fo (fun _ st => yp_tmG Q q st) n (H, s)).1 ∧ yp_Fr (yp_TU B) m m' := by
  have hM := yp_mS B
  obtain ⟨m1, e1, e2, e3⟩ := yp_m_take hN
  obtain ⟨m2, hm2⟩ : ∃ m', m' = up2 m1 (B + 517) 47 s := ⟨_, rfl⟩
  have f2 : yp_Fr (yp_TU B) m m2 := by
    rw [hm2]
    exact (e3.mono (fun a j h => by unfold yp_FS at h; unfold yp_TU; omega)).up (.inr (.inr (.inr (.inr ⟨rfl, rfl⟩))))
  have h2 : yp_HM m2 (B + 533) H := e2.same (fun j => by rw [hm2, yp_up2_n _ _ (by omega)])
  have s2 : m2 (B + 517) 47 = s := by rw [hm2, yp_up2_s]
  obtain ⟨m', g1, g2, g3, g4⟩ := yp_lpI (step := fun st : Int32 × Mem => fX12_termGoes_b12 (yp_SH B) (B + 517) (yp_N q) (yp_N n) st.1 st.2) (fun k st => ∃ m3, st = (yp_N k, m3) ∧ yp_HM m3 (B + 533) (yp_fo (fun _ st => yp_tmG Q q st) k (H, s)).1 ∧ m3 (B + 517) 47 = (yp_fo (fun _ st => yp_tmG Q q st) k (H, s)).2 ∧ yp_HI Q (yp_fo (fun _ st => yp_tmG Q q st) k (H, s)).1 ∧ yp_Fr (yp_TU B) m m3) (fun m3 => yp_HM m3 (B + 533) (yp_fo (fun _ st => yp_tmG Q q st) n (H, s)).1 ∧ yp_HI Q (yp_fo (fun _ st => yp_tmG Q q st) n (H, s)).1 ∧ yp_Fr (yp_TU B) m m3) n (fun k st hk hJ => by
    obtain ⟨m3, rfl, j1, j2, jI, j3⟩ := hJ
    by_cases e : k = n
    · subst e
      exact .inr ⟨m3, by simp (disch := omega) only [fX12_termGoes_b12, Nat.reduceAdd, Nat.reduceMul, Nat.reduceSub, Nat.zero_add, Nat.add_zero, yp_LT, yp_nA, yp_nM, yp_ltF, yp_ltT, yp_leF, yp_leT, yp_eqF, eq_self, yp_eqM, lt1, yp_sbN, yp_sb2N, ↓reduceIte, ↓yp_iP11, ↓yp_iP12, ↓yp_m0P], j1, jI, j3⟩
    · rw [yp_fo_s]
      generalize yp_fo (fun _ st => yp_tmG Q q st) k (H, s) = st at j1 j2 jI
      have hI2 := yp_HI.tmG hE q st jI
      have c1 : m3 (B + 517) 17 = yp_N (yp_qf Q) := (j3 _ _ (by unfold yp_TU; omega)).trans hC.1
      have c2 : m3 (B + 517) 18 = yp_N (yp_qg Q) := (j3 _ _ (by unfold yp_TU; omega)).trans hC.2.1
      have q1 := hE.1
      have q2 := hE.2.1
      by_cases h0 : yp_qf Q = 0 ∨ yp_qg Q = 0
      · have eT : yp_tmG Q q st = (yp_dayH st.1, st.2) := by unfold yp_tmG; rw [if_pos h0]
        obtain ⟨m4, p1, p2, p3⟩ := yp_m_day j1
        rw [eT] at hI2 ⊢
        refine .inl ⟨by omega, (yp_N (k + 1), m4), ?_, m4, rfl, p2, (p3 _ _ (by unfold yp_FS; omega)).trans j2, hI2, j3.tr (p3.mono (fun a j h => by unfold yp_FS at h; unfold yp_TU; omega))⟩
        by_cases h00 : yp_qf Q = 0
        · simp (disch := omega) only [fX12_termGoes_b12, fX12_termGoes_j123, hM, c1, c2, h00, p1, Nat.reduceAdd, Nat.reduceMul, Nat.reduceSub, Nat.zero_add, Nat.add_zero, yp_LT, yp_nA, yp_nM, yp_ltF, yp_ltT, yp_leF, yp_leT, yp_eqF, eq_self, yp_eqM, lt1, yp_sbN, yp_sb2N, ↓reduceIte, ↓yp_iP11, ↓yp_iP12, ↓yp_m0P]
        · have h01 : yp_qg Q = 0 := h0.resolve_left h00
          simp (disch := omega) only [fX12_termGoes_b12, fX12_termGoes_j123, hM, c1, c2, h01, p1, Nat.reduceAdd, Nat.reduceMul, Nat.reduceSub, Nat.zero_add, Nat.add_zero, yp_LT, yp_nA, yp_nM, yp_ltF, yp_ltT, yp_leF, yp_leT, yp_eqF, eq_self, yp_eqM, lt1, yp_sbN, yp_sb2N, ↓reduceIte, ↓yp_iP11, ↓yp_iP12, ↓yp_m0P]
      · have l1 := Nat.mod_lt (yp_mk (yp_nx st.2)) (show yp_qf Q > 0 by omega)
        have l2 := Nat.mod_lt (yp_mk (yp_nx (yp_nx st.2))) (show yp_qg Q > 0 by omega)
        have d1 := yp_m_draw j2 (yp_qf Q) (by omega) (by omega)
        obtain ⟨m4, hm4⟩ : ∃ m', m' = up2 m3 (B + 517) 47 (yp_nx st.2) := ⟨_, rfl⟩
        rw [← hm4] at d1
        have s4 : m4 (B + 517) 47 = yp_nx st.2 := by rw [hm4, yp_up2_s]
        have c4 : m4 (B + 517) 18 = yp_N (yp_qg Q) := by rw [hm4, yp_up2_n _ _ (by omega), c2]
        have d2 := yp_m_draw s4 (yp_qg Q) (by omega) (by omega)
        obtain ⟨m5, hm5⟩ : ∃ m', m' = up2 m4 (B + 517) 47 (yp_nx (yp_nx st.2)) := ⟨_, rfl⟩
        rw [← hm5] at d2
        have s5 : m5 (B + 517) 47 = yp_nx (yp_nx st.2) := by rw [hm5, yp_up2_s]
        have f5 : yp_Fr (yp_TU B) m3 m5 := by
          rw [hm5, hm4]
          exact (yp_Fr.rf.up (.inr (.inr (.inr (.inr ⟨rfl, rfl⟩))))).up (.inr (.inr (.inr (.inr ⟨rfl, rfl⟩))))
        have hH5 : yp_HM m5 (B + 533) st.1 := j1.same (fun j => by rw [hm5, yp_up2_n _ _ (by omega), hm4, yp_up2_n _ _ (by omega)])
        have hC5 : yp_CLm B m5 Q := hC.fr (fun a j h => by rw [f5 a j (by unfold yp_TU; omega), j3 a j (by unfold yp_TU; omega)])
        have eT : yp_tmG Q q st = (yp_dayH (yp_loseJ Q q (yp_partJ Q st.1 (yp_mk (yp_nx st.2) % yp_qf Q) (yp_mk (yp_nx (yp_nx st.2)) % yp_qg Q)) (yp_nx (yp_nx st.2))).1, (yp_loseJ Q q (yp_partJ Q st.1 (yp_mk (yp_nx st.2) % yp_qf Q) (yp_mk (yp_nx (yp_nx st.2)) % yp_qg Q)) (yp_nx (yp_nx st.2))).2) := by unfold yp_tmG; rw [if_neg h0]
        rw [eT] at hI2 ⊢
        have fin : ∀ m6, yp_HM m6 (B + 533) (yp_partJ Q st.1 (yp_mk (yp_nx st.2) % yp_qf Q) (yp_mk (yp_nx (yp_nx st.2)) % yp_qg Q)) → m6 (B + 517) 47 = yp_nx (yp_nx st.2) → yp_Fr (yp_TU B) m m6 → ∃ t, fX12_termGoes_j72 (yp_SH B) (B + 517) (yp_N q) (yp_N n) (yp_N k) m6 = some (.inl t) ∧ ∃ m3, t = (yp_N (k + 1), m3) ∧ yp_HM m3 (B + 533) (yp_dayH (yp_loseJ Q q (yp_partJ Q st.1 (yp_mk (yp_nx st.2) % yp_qf Q) (yp_mk (yp_nx (yp_nx st.2)) % yp_qg Q)) (yp_nx (yp_nx st.2))).1) ∧ m3 (B + 517) 47 = (yp_loseJ Q q (yp_partJ Q st.1 (yp_mk (yp_nx st.2) % yp_qf Q) (yp_mk (yp_nx (yp_nx st.2)) % yp_qg Q)) (yp_nx (yp_nx st.2))).2 ∧ yp_HI Q (yp_dayH (yp_loseJ Q q (yp_partJ Q st.1 (yp_mk (yp_nx st.2) % yp_qf Q) (yp_mk (yp_nx (yp_nx st.2)) % yp_qg Q)) (yp_nx (yp_nx st.2))).1) ∧ yp_Fr (yp_TU B) m m3 := by
          intro m6 u1 u2 u3
          have hC6 : yp_CLm B m6 Q := hC.fr (fun a j h => u3 a j (by unfold yp_TU; omega))
          obtain ⟨m7, r1, r2, r3, r4⟩ := yp_m_lose hE hC6 u1 u2 (by omega) q hq (yp_N n) (yp_N k)
          obtain ⟨m8, t1, t2, t3⟩ := yp_m_day r2
          refine ⟨(yp_N (k + 1), m8), ?_, m8, rfl, t2, (t3 _ _ (by unfold yp_FS; omega)).trans r3, hI2, (u3.tr r4).tr (t3.mono (fun a j h => by unfold yp_FS at h; unfold yp_TU; omega))⟩
          rw [r1]
          simp (disch := omega) only [fX12_termGoes_j123, hM, t1, Nat.reduceAdd, Nat.reduceMul, Nat.reduceSub, Nat.zero_add, Nat.add_zero, yp_LT, yp_nA, yp_nM, yp_ltF, yp_ltT, yp_leF, yp_leT, yp_eqF, eq_self, yp_eqM, lt1, yp_sbN, yp_sb2N, ↓reduceIte, ↓yp_iP11, ↓yp_iP12, ↓yp_m0P]
        rcases yp_m_parted hE hC5 hH5 jI.nn0 (yp_mk (yp_nx st.2) % yp_qf Q) (yp_mk (yp_nx (yp_nx st.2)) % yp_qg Q) (by omega) l2 with ⟨g1, g2⟩ | ⟨g1, m6, g2, g3, g4⟩
        · obtain ⟨m6, v1, v2, v3⟩ := yp_m_joinBy hE hC5 hH5 (yp_mk (yp_nx st.2) % yp_qf Q) (yp_mk (yp_nx (yp_nx st.2)) % yp_qg Q) (by omega) l2
          obtain ⟨t, w1, w2⟩ := fin m6 (by rw [yp_partJ0 g1]; exact v2) ((v3 _ _ (by unfold yp_TQ; omega)).trans s5) ((j3.tr f5).tr (v3.mono (fun a j h => by unfold yp_TQ at h; unfold yp_TU; omega)))
          refine .inl ⟨by omega, t, ?_, w2⟩
          rw [← w1]
          simp (disch := omega) only [fX12_termGoes_b12, hM, c1, c2, d1, c4, d2, g2, v1, Nat.reduceAdd, Nat.reduceMul, Nat.reduceSub, Nat.zero_add, Nat.add_zero, yp_LT, yp_nA, yp_nM, yp_ltF, yp_ltT, yp_leF, yp_leT, yp_eqF, eq_self, yp_eqM, lt1, yp_sbN, yp_sb2N, ↓reduceIte, ↓yp_iP11, ↓yp_iP12, ↓yp_m0P]
        · obtain ⟨t, w1, w2⟩ := fin m6 (by rw [yp_partJ1 g1]; exact g3) ((g4 _ _ (by unfold yp_TQ; omega)).trans s5) ((j3.tr f5).tr (g4.mono (fun a j h => by unfold yp_TQ at h; unfold yp_TU; omega)))
          refine .inl ⟨by omega, t, ?_, w2⟩
          rw [← w1]
          simp (disch := omega) only [fX12_termGoes_b12, hM, c1, c2, d1, c4, d2, g2, Nat.reduceAdd, Nat.reduceMul, Nat.reduceSub, Nat.zero_add, Nat.add_zero, yp_LT, yp_nA, yp_nM, yp_ltF, yp_ltT, yp_leF, yp_leT, yp_eqF, eq_self, yp_eqM, lt1, yp_sbN, yp_sb2N, ↓reduceIte, ↓yp_iP11, ↓yp_iP12, ↓yp_m0P]) (show n < FU by rw [yp_FUe]; omega) (s0 := (yp_N 0, m2)) ⟨m2, rfl, h2, s2, hH0, f2⟩
  exact ⟨m', by simp (disch := omega) only [fX12_termGoes_j133, fX12_termGoes_j123, fX12_termGoes_j72, fX12_termGoes, hM, e1, ← hm2, g1, Nat.reduceAdd, Nat.reduceMul, Nat.reduceSub, Nat.zero_add, Nat.add_zero, yp_LT, yp_nA, yp_nM, yp_ltF, yp_ltT, yp_leF, yp_leT, yp_eqF, eq_self, yp_eqM, lt1, yp_sbN, yp_sb2N, ↓reduceIte, ↓yp_iP11, ↓yp_iP12, ↓yp_m0P], g2, g3, g4⟩
set_option maxHeartbeats 1000000 in
theorem yp_tmR (x y : Int32) : (∃ q n, q ≤ 16 ∧ 1 ≤ n ∧ n ≤ 48 ∧ x = yp_N q ∧ y = yp_N n ∧ fX11_isTerm (yp_N q) (yp_N n) = some (yp_N 1) ∧ fX12_isTerm (yp_N q) (yp_N n) = some (yp_N 1)) ∨ (fX11_isTerm x y = some (yp_N 0) ∧ fX12_isTerm x y = some (yp_N 0)) := by
  rcases yp_rngG x 0 16 (by omega) (by omega) with ⟨q, _, h2, rfl⟩ | h | h
  · rcases yp_rngG y 1 48 (by omega) (by omega) with ⟨n, h3, h4, rfl⟩ | h | h
    · exact .inl ⟨q, n, h2, h3, h4, rfl, rfl, by simp (disch := omega) only [fX11_isTerm_j26, fX11_isTerm_j25, fX11_isTerm, yp_ck1, Nat.reduceAdd, Nat.reduceMul, Nat.reduceSub, Nat.zero_add, Nat.add_zero, yp_LT, yp_nA, yp_nM, yp_ltF, yp_ltT, yp_leF, yp_leT, yp_eqF, eq_self, yp_eqM, lt1, yp_sbN, yp_sb2N, ↓reduceIte, ↓yp_iP11, ↓yp_iP12, ↓yp_m0P], by simp (disch := omega) only [fX12_isTerm_j26, fX12_isTerm_j25, fX12_isTerm, yp_ck1, Nat.reduceAdd, Nat.reduceMul, Nat.reduceSub, Nat.zero_add, Nat.add_zero, yp_LT, yp_nA, yp_nM, yp_ltF, yp_ltT, yp_leF, yp_leT, yp_eqF, eq_self, yp_eqM, lt1, yp_sbN, yp_sb2N, ↓reduceIte, ↓yp_iP11, ↓yp_iP12, ↓yp_m0P]⟩
    · exact .inr ⟨by simp (disch := omega) only [fX11_isTerm_j26, fX11_isTerm_j25, fX11_isTerm, yp_ck0, h, Nat.reduceAdd, Nat.reduceMul, Nat.reduceSub, Nat.zero_add, Nat.add_zero, yp_LT, yp_nA, yp_nM, yp_ltF, yp_ltT, yp_leF, yp_leT, yp_eqF, eq_self, yp_eqM, lt1, yp_sbN, yp_sb2N, ↓reduceIte, ↓yp_iP11, ↓yp_iP12, ↓yp_m0P], by simp (disch := omega) only [fX12_isTerm_j26, fX12_isTerm_j25, fX12_isTerm, yp_ck0, h, Nat.reduceAdd, Nat.reduceMul, Nat.reduceSub, Nat.zero_add, Nat.add_zero, yp_LT, yp_nA, yp_nM, yp_ltF, yp_ltT, yp_leF, yp_leT, yp_eqF, eq_self, yp_eqM, lt1, yp_sbN, yp_sb2N, ↓reduceIte, ↓yp_iP11, ↓yp_iP12, ↓yp_m0P]⟩
    · exact .inr ⟨by simp (disch := omega) only [fX11_isTerm_j26, fX11_isTerm_j25, fX11_isTerm, yp_ck0, h, Nat.reduceAdd, Nat.reduceMul, Nat.reduceSub, Nat.zero_add, Nat.add_zero, yp_LT, yp_nA, yp_nM, yp_ltF, yp_ltT, yp_leF, yp_leT, yp_eqF, eq_self, yp_eqM, lt1, yp_sbN, yp_sb2N, ↓reduceIte, ↓yp_iP11, ↓yp_iP12, ↓yp_m0P], by simp (disch := omega) only [fX12_isTerm_j26, fX12_isTerm_j25, fX12_isTerm, yp_ck0, h, Nat.reduceAdd, Nat.reduceMul, Nat.reduceSub, Nat.zero_add, Nat.add_zero, yp_LT, yp_nA, yp_nM, yp_ltF, yp_ltT, yp_leF, yp_leT, yp_eqF, eq_self, yp_eqM, lt1, yp_sbN, yp_sb2N, ↓reduceIte, ↓yp_iP11, ↓yp_iP12, ↓yp_m0P]⟩
  · exact .inr ⟨by simp (disch := omega) only [fX11_isTerm_j26, fX11_isTerm_j25, fX11_isTerm, yp_ck0, h, Nat.reduceAdd, Nat.reduceMul, Nat.reduceSub, Nat.zero_add, Nat.add_zero, yp_LT, yp_nA, yp_nM, yp_ltF, yp_ltT, yp_leF, yp_leT, yp_eqF, eq_self, yp_eqM, lt1, yp_sbN, yp_sb2N, ↓reduceIte, ↓yp_iP11, ↓yp_iP12, ↓yp_m0P], by simp (disch := omega) only [fX12_isTerm_j26, fX12_isTerm_j25, fX12_isTerm, yp_ck0, h, Nat.reduceAdd, Nat.reduceMul, Nat.reduceSub, Nat.zero_add, Nat.add_zero, yp_LT, yp_nA, yp_nM, yp_ltF, yp_ltT, yp_leF, yp_leT, yp_eqF, eq_self, yp_eqM, lt1, yp_sbN, yp_sb2N, ↓reduceIte, ↓yp_iP11, ↓yp_iP12, ↓yp_m0P]⟩
  · exact .inr ⟨by simp (disch := omega) only [fX11_isTerm_j26, fX11_isTerm_j25, fX11_isTerm, yp_ck0, h, Nat.reduceAdd, Nat.reduceMul, Nat.reduceSub, Nat.zero_add, Nat.add_zero, yp_LT, yp_nA, yp_nM, yp_ltF, yp_ltT, yp_leF, yp_leT, yp_eqF, eq_self, yp_eqM, lt1, yp_sbN, yp_sb2N, ↓reduceIte, ↓yp_iP11, ↓yp_iP12, ↓yp_m0P], by simp (disch := omega) only [fX12_isTerm_j26, fX12_isTerm_j25, fX12_isTerm, yp_ck0, h, Nat.reduceAdd, Nat.reduceMul, Nat.reduceSub, Nat.zero_add, Nat.add_zero, yp_LT, yp_nA, yp_nM, yp_ltF, yp_ltT, yp_leF, yp_leT, yp_eqF, eq_self, yp_eqM, lt1, yp_sbN, yp_sb2N, ↓reduceIte, ↓yp_iP11, ↓yp_iP12, ↓yp_m0P]⟩
set_option maxHeartbeats 1000000 in
theorem yp_FC.tt {m1 : Mem} (h : yp_Fr (yp_TT B) mm m1) : yp_FC B mm m1 := fun a j k => h a j (by unfold yp_KC at k; unfold yp_TT; omega)
set_option maxHeartbeats 1000000 in
theorem yp_FM.tu {m m2 : Mem} (h : yp_Fr (yp_TU B) (yp_m0 B m) m2) : yp_FM B m m2 := fun a j k => h a j (by unfold yp_KM at k; unfold yp_TU; omega)
set_option maxHeartbeats 1000000 in
theorem yp_row42 {m : Mem} {x d o : Nat} {H : Nat → Int32} (n : Nat) (hn : n < 8000) (hs : yp_SH B (x + d) = some (.inl n)) (h : ∀ k, k < n → m (x + d) k = H (o + k)) : fX11_sum (yp_SH B) (x + d) (yp_N 0) (yp_N n) m = some (yp_sm (fun i => H (o + i)) n) := by
  have := yp_h_sum (sh := yp_SH B) (mm := m) (R := fun i => H (o + i)) hs 0 n (fun k hk => by rw [Nat.zero_add]; exact h k hk) (by omega) (by omega) (by omega)
  rw [Nat.zero_add] at this
  exact this
set_option maxHeartbeats 1000000 in
theorem yp_p_term (hR : yp_RCc B mm A) (hI : yp_INV A) (s x y z : Int32) : yp_PM B (fX11_term (yp_SH B) B s x y z mm) (fun m => fX12_term (yp_SH B) (B + 517) s x y z m) hcI mm A := by
  have hA := yp_clsS B
  have hT := yp_trmS B
  have hX := yp_HSx (yp_hs511 B)
  have hX3 := yp_HSx (yp_hs33 B)
  have hM := yp_mS B
  have hn := @yp_nd1 B mm
  have h0 := @yp_nd0 B mm A hR
  have hq := hI.1.1
  rcases yp_tmR x y with ⟨q, n, hq16, hn1, hn48, rfl, rfl, q1, q2⟩ | ⟨q1, q2⟩
  rotate_left
  · exact yp_PM_e1 hR hI (by simp (disch := omega) only [fX11_term_j25, fX11_term_j24, fX11_term, hA, ↓h0, ↓yp_opP q1, ↓yp_smL, ↓yp_smR, Nat.reduceAdd, Nat.reduceMul, Nat.reduceSub, Nat.zero_add, Nat.add_zero, yp_LT, yp_nA, yp_nM, yp_ltF, yp_ltT, yp_leF, yp_leT, yp_eqF, eq_self, yp_eqM, lt1, yp_sbN, yp_sb2N, ↓reduceIte, ↓yp_iP11, ↓yp_iP12, ↓yp_m0P]) (fun m hm => by simp (disch := omega) only [fX12_term_j130, fX12_term_j105, fX12_term_j64, fX12_term_j29, fX12_term_j28, fX12_term, hM, yp_m0e, ↓yp_opP q2, yp_may11, Nat.reduceAdd, Nat.reduceMul, Nat.reduceSub, Nat.zero_add, Nat.add_zero, yp_LT, yp_nA, yp_nM, yp_ltF, yp_ltT, yp_leF, yp_leT, yp_eqF, eq_self, yp_eqM, lt1, yp_sbN, yp_sb2N, ↓reduceIte, ↓yp_iP11, ↓yp_iP12, ↓yp_m0P]) rfl yp_n1
  rcases yp_rng z 3 (by omega) with ⟨k, hk, rfl⟩ | h | h
  rotate_left
  · exact yp_PM_e1 hR hI (by simp (disch := omega) only [fX11_term_j25, fX11_term_j24, fX11_term, hA, ↓h0, ↓yp_opP q1, h, ↓yp_smL, ↓yp_smR, Nat.reduceAdd, Nat.reduceMul, Nat.reduceSub, Nat.zero_add, Nat.add_zero, yp_LT, yp_nA, yp_nM, yp_ltF, yp_ltT, yp_leF, yp_leT, yp_eqF, eq_self, yp_eqM, lt1, yp_sbN, yp_sb2N, ↓reduceIte, ↓yp_iP11, ↓yp_iP12, ↓yp_m0P]) (fun m hm => by simp (disch := omega) only [fX12_term_j130, fX12_term_j105, fX12_term_j64, fX12_term_j29, fX12_term_j28, fX12_term, hM, yp_m0e, ↓yp_opP q2, ↓yp_wiP, h, yp_may11, Nat.reduceAdd, Nat.reduceMul, Nat.reduceSub, Nat.zero_add, Nat.add_zero, yp_LT, yp_nA, yp_nM, yp_ltF, yp_ltT, yp_leF, yp_leT, yp_eqF, eq_self, yp_eqM, lt1, yp_sbN, yp_sb2N, ↓reduceIte, ↓yp_iP11, ↓yp_iP12, ↓yp_m0P]) rfl yp_n1
  · exact yp_PM_e1 hR hI (by simp (disch := omega) only [fX11_term_j25, fX11_term_j24, fX11_term, hA, ↓h0, ↓yp_opP q1, h, ↓yp_smL, ↓yp_smR, Nat.reduceAdd, Nat.reduceMul, Nat.reduceSub, Nat.zero_add, Nat.add_zero, yp_LT, yp_nA, yp_nM, yp_ltF, yp_ltT, yp_leF, yp_leT, yp_eqF, eq_self, yp_eqM, lt1, yp_sbN, yp_sb2N, ↓reduceIte, ↓yp_iP11, ↓yp_iP12, ↓yp_m0P]) (fun m hm => by simp (disch := omega) only [fX12_term_j130, fX12_term_j105, fX12_term_j64, fX12_term_j29, fX12_term_j28, fX12_term, hM, yp_m0e, ↓yp_opP q2, ↓yp_wiP, h, yp_may11, Nat.reduceAdd, Nat.reduceMul, Nat.reduceSub, Nat.zero_add, Nat.add_zero, yp_LT, yp_nA, yp_nM, yp_ltF, yp_ltT, yp_leF, yp_leT, yp_eqF, eq_self, yp_eqM, lt1, yp_sbN, yp_sb2N, ↓reduceIte, ↓yp_iP11, ↓yp_iP12, ↓yp_m0P]) rfl yp_n1
  obtain ⟨m1, e1, e2, e3⟩ := yp_c_run hI.1 hR.1 hR.2.1 s q n hq16 hn48
  have goR : ∀ m, yp_RMm B m A → ∃ m2, fX12_termGoes (yp_SH B) (B + 517) s (yp_N q) (yp_N n) (yp_m0 B m) = some m2 ∧ yp_HM m2 (B + 533) (yp_fo (fun _ st => yp_tmG (yp_sQ A) q st) n (yp_sH A, s)).1 ∧ yp_HI (yp_sQ A) (yp_fo (fun _ st => yp_tmG (yp_sQ A) q st) n (yp_sH A, s)).1 ∧ yp_HM m2 (B + 532) (yp_sH A) ∧ m2 (B + 517) 17 = yp_N (yp_qf (yp_sQ A)) ∧ yp_FM B m m2 := fun m hm => by
    obtain ⟨m2, a1, a2, a3, a4⟩ := yp_m_run hI.1 (yp_m0R hm).1 hI.2.1 (yp_m0R hm).2.1 s q n hq16 hn48
    exact ⟨m2, a1, a2, a3, (yp_m0R hm).2.1.same (fun j => a4 _ j (by unfold yp_TU; omega)), (a4 _ _ (by unfold yp_TU; omega)).trans (yp_m0R hm).1.1, yp_FM.tu a4⟩
  generalize (yp_fo (fun _ st => yp_tmG (yp_sQ A) q st) n (yp_sH A, s)).1 = K at e2 goR
  have hH3 : yp_HC m1 (B + 33) (yp_sH A) := hR.2.1.same (fun a j p1 p2 => e3 a j (by unfold yp_TT; omega))
  have L : ∀ m2, yp_HM m2 (B + 532) (yp_sH A) → loopN (fun st : Int32 × Int32 => fX12_term_b76 (yp_SH B) (B + 517) (yp_N k) st.1 st.2 m2) FU (yp_N 0, yp_N 0) = some (yp_sm (fun i => yp_sH A (168 + i)) 6) := fun m2 hm2 => by
    refine yp_lpF (fun k a => (a, yp_N k)) (fun i a => a + yp_sH A (168 + i)) id 6 (yp_N 0) (fun k z hk hz => ?_) (fun z hz => ?_) (by rw [yp_FUe]; omega) rfl
    · have e := hm2 (168 + k) (by omega)
      simp (disch := omega) only [fX12_term_b76, hM, e, Nat.reduceAdd, Nat.reduceMul, Nat.reduceSub, Nat.zero_add, Nat.add_zero, yp_LT, yp_nA, yp_nM, yp_ltF, yp_ltT, yp_leF, yp_leT, yp_eqF, eq_self, yp_eqM, lt1, yp_sbN, yp_sb2N, ↓reduceIte, ↓yp_iP11, ↓yp_iP12, ↓yp_m0P]
    · simp (disch := omega) only [fX12_term_b76, Nat.reduceAdd, Nat.reduceMul, Nat.reduceSub, Nat.zero_add, Nat.add_zero, yp_LT, yp_nA, yp_nM, yp_ltF, yp_ltT, yp_leF, yp_leT, yp_eqF, eq_self, yp_eqM, lt1, yp_sbN, yp_sb2N, ↓reduceIte, ↓yp_iP11, ↓yp_iP12, ↓yp_m0P]
      rfl
  have : k = 0 ∨ k = 1 ∨ k = 2 ∨ k = 3 := by omega
  rcases this with rfl | rfl | rfl | rfl
  · refine yp_PM_v hR hI (v := yp_sm (fun i => K (0 + i)) 42) (m1 := m1) ?_ (yp_FC.tt e3) (fun m hm => ?_)
    · have e := yp_row42 (B := B) (m := m1) (x := B + 511) (d := 1) (o := 0) (H := K) 42 (by omega) (yp_hs511 B).2.1 (fun k hk => by rw [Nat.zero_add]; exact e2.1 k hk)
      simp (disch := omega) only [fX11_term_j25, fX11_term_j24, fX11_term, hA, hT, hX, ↓hn, ↓yp_opP q1, ↓yp_smL, ↓yp_smR, e1, Nat.reduceAdd, Nat.reduceMul, Nat.reduceSub, Nat.zero_add, Nat.add_zero, yp_LT, yp_nA, yp_nM, yp_ltF, yp_ltT, yp_leF, yp_leT, yp_eqF, eq_self, yp_eqM, lt1, yp_sbN, yp_sb2N, ↓reduceIte, ↓yp_iP11, ↓yp_iP12, ↓yp_m0P]
      rw [e]
      rfl
    · obtain ⟨m2, a1, a2, a3, a4, a5, a6⟩ := goR m hm
      exact ⟨m2, by simp (disch := omega) only [fX12_term_j130, fX12_term_j105, fX12_term_j64, fX12_term_j29, fX12_term_j28, fX12_term, hM, yp_m0e, ↓yp_opP q2, ↓yp_wiP, yp_mayG, a1, yp_m_sum a2 0 42 (by omega), Nat.reduceAdd, Nat.reduceMul, Nat.reduceSub, Nat.zero_add, Nat.add_zero, yp_LT, yp_nA, yp_nM, yp_ltF, yp_ltT, yp_leF, yp_leT, yp_eqF, eq_self, yp_eqM, lt1, yp_sbN, yp_sb2N, ↓reduceIte, ↓yp_iP11, ↓yp_iP12, ↓yp_m0P], a6⟩
  · refine yp_PM_v hR hI (v := yp_sm (fun i => K (42 + i)) 42) (m1 := m1) ?_ (yp_FC.tt e3) (fun m hm => ?_)
    · have e := yp_row42 (B := B) (m := m1) (x := B + 511) (d := 2) (o := 42) (H := K) 42 (by omega) (yp_hs511 B).2.2.1 (fun k hk => e2.2.1 k hk)
      simp (disch := omega) only [fX11_term_j25, fX11_term_j24, fX11_term, hA, hT, hX, ↓hn, ↓yp_opP q1, ↓yp_smL, ↓yp_smR, e1, Nat.reduceAdd, Nat.reduceMul, Nat.reduceSub, Nat.zero_add, Nat.add_zero, yp_LT, yp_nA, yp_nM, yp_ltF, yp_ltT, yp_leF, yp_leT, yp_eqF, eq_self, yp_eqM, lt1, yp_sbN, yp_sb2N, ↓reduceIte, ↓yp_iP11, ↓yp_iP12, ↓yp_m0P]
      rw [e]
      rfl
    · obtain ⟨m2, a1, a2, a3, a4, a5, a6⟩ := goR m hm
      exact ⟨m2, by simp (disch := omega) only [fX12_term_j130, fX12_term_j105, fX12_term_j64, fX12_term_j29, fX12_term_j28, fX12_term, hM, yp_m0e, ↓yp_opP q2, ↓yp_wiP, yp_mayG, a1, yp_m_sum a2 42 42 (by omega), Nat.reduceAdd, Nat.reduceMul, Nat.reduceSub, Nat.zero_add, Nat.add_zero, yp_LT, yp_nA, yp_nM, yp_ltF, yp_ltT, yp_leF, yp_leT, yp_eqF, eq_self, yp_eqM, lt1, yp_sbN, yp_sb2N, ↓reduceIte, ↓yp_iP11, ↓yp_iP12, ↓yp_m0P], a6⟩
  · refine yp_PM_v hR hI (v := yp_sm (fun i => K (168 + i)) 6 - yp_sm (fun i => yp_sH A (168 + i)) 6) (m1 := m1) ?_ (yp_FC.tt e3) (fun m hm => ?_)
    · have e := yp_row42 (B := B) (m := m1) (x := B + 511) (d := 5) (o := 168) (H := K) 6 (by omega) (yp_hs511 B).2.2.2.2.2 (fun k hk => e2.2.2.2.2.1 k hk)
      have e' := yp_row42 (B := B) (m := m1) (x := B + 33) (d := 5) (o := 168) (H := yp_sH A) 6 (by omega) (yp_hs33 B).2.2.2.2.2 (fun k hk => hH3.2.2.2.2.1 k hk)
      simp (disch := omega) only [fX11_term_j25, fX11_term_j24, fX11_term, hA, hT, hX, hX3, ↓hn, ↓yp_opP q1, ↓yp_smL, ↓yp_smR, e1, Nat.reduceAdd, Nat.reduceMul, Nat.reduceSub, Nat.zero_add, Nat.add_zero, yp_LT, yp_nA, yp_nM, yp_ltF, yp_ltT, yp_leF, yp_leT, yp_eqF, eq_self, yp_eqM, lt1, yp_sbN, yp_sb2N, ↓reduceIte, ↓yp_iP11, ↓yp_iP12, ↓yp_m0P]
      rw [e, e']
      rfl
    · obtain ⟨m2, a1, a2, a3, a4, a5, a6⟩ := goR m hm
      exact ⟨m2, by simp (disch := omega) only [fX12_term_j130, fX12_term_j105, fX12_term_j64, fX12_term_j29, fX12_term_j28, fX12_term, hM, yp_m0e, ↓yp_opP q2, ↓yp_wiP, yp_mayG, a1, L m2 a4, yp_m_sum a2 168 6 (by omega), Nat.reduceAdd, Nat.reduceMul, Nat.reduceSub, Nat.zero_add, Nat.add_zero, yp_LT, yp_nA, yp_nM, yp_ltF, yp_ltT, yp_leF, yp_leT, yp_eqF, eq_self, yp_eqM, lt1, yp_sbN, yp_sb2N, ↓reduceIte, ↓yp_iP11, ↓yp_iP12, ↓yp_m0P], a6⟩
  · refine yp_PM_v hR hI (v := yp_fo (yp_wbG K) 6 (yp_N 0)) (m1 := m1) ?_ (yp_FC.tt e3) (fun m hm => ?_)
    · simp (disch := omega) only [fX11_term_j25, fX11_term_j24, fX11_term, hA, hT, hX, ↓hn, ↓yp_opP q1, ↓yp_smL, ↓yp_smR, e1, yp_h_whites (yp_hs511 B) e2, Nat.reduceAdd, Nat.reduceMul, Nat.reduceSub, Nat.zero_add, Nat.add_zero, yp_LT, yp_nA, yp_nM, yp_ltF, yp_ltT, yp_leF, yp_leT, yp_eqF, eq_self, yp_eqM, lt1, yp_sbN, yp_sb2N, ↓reduceIte, ↓yp_iP11, ↓yp_iP12, ↓yp_m0P]
    · obtain ⟨m2, a1, a2, a3, a4, a5, a6⟩ := goR m hm
      rw [yp_whites_eq a3 hq]
      exact ⟨m2, by simp (disch := omega) only [fX12_term_j130, fX12_term_j105, fX12_term_j64, fX12_term_j29, fX12_term_j28, fX12_term, hM, yp_m0e, ↓yp_opP q2, ↓yp_wiP, yp_mayG, a1, L m2 a4, yp_m_whites a2 a5 hq, Nat.reduceAdd, Nat.reduceMul, Nat.reduceSub, Nat.zero_add, Nat.add_zero, yp_LT, yp_nA, yp_nM, yp_ltF, yp_ltT, yp_leF, yp_leT, yp_eqF, eq_self, yp_eqM, lt1, yp_sbN, yp_sb2N, ↓reduceIte, ↓yp_iP11, ↓yp_iP12, ↓yp_m0P], a6⟩
end TERM

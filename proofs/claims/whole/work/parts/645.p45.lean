def yp_twoO (t : Nat → Nat) (n : Nat) (S : yp_LwT → Option yp_LwR) (j e : Nat) (z : yp_LwT) : Option yp_LwR :=
  if yp_sgk t n e 91 = 0 then (S (yp_sk t n e + 1, z.2)).bind (fun r1 => if r1.1.1 = 0 then (if yp_sgk t n r1.2.1 44 = 0 then (S (yp_sk t n r1.2.1 + 1, r1.2.2)).bind (fun r2 => if r2.1.1 = 0 then (if yp_sgk t n r2.2.1 93 = 0 then some ((0, 0), yp_lay (j - 2, 0) (yp_sk t n r2.2.1 + 1, r2.2.2)) else some ((yp_sgk t n r2.2.1 93, yp_sk t n r2.2.1), z)) else some r2) else some ((yp_sgk t n r1.2.1 44, yp_sk t n r1.2.1), z)) else some r1)
  else some ((yp_sgk t n e 91, yp_sk t n e), z)
def yp_parO (t : Nat → Nat) (n : Nat) (S : yp_LwT → Option yp_LwR) (z : yp_LwT) : Option yp_LwR :=
  (S (yp_sk t n z.1 + 1, z.2)).bind (fun r => if r.1.1 = 0 then some ((yp_sgk t n r.2.1 41, yp_sk t n r.2.1), (yp_sk t n r.2.1 + 1, r.2.2)) else some r)
def yp_unitO (t : Nat → Nat) (n d : Nat) (S : yp_LwT → Option yp_LwR) (z : yp_LwT) : Option yp_LwR :=
  if yp_sk t n z.1 < n ∧ yp_dg t (yp_sk t n z.1) = true then (if yp_nK t n 0 1000 z.1 = 0 then some ((0, 0), yp_lay (0, yp_nV t n z.1) (yp_nE t n z.1, z.2)) else some ((yp_nK t n 0 1000 z.1, yp_sk t n z.1), z))
  else if yp_sk t n z.1 < n ∧ t (yp_sk t n z.1) = 40 then (if d = 0 then some ((3, yp_sk t n z.1), z) else yp_parO t n S z)
  else if yp_widx yp_C2 (yp_wC t n z.1) = 10 then some ((1, yp_sk t n z.1), z)
  else if yp_widx yp_C2 (yp_wC t n z.1) < 8 then some ((0, 0), yp_lay (1, yp_widx yp_C2 (yp_wC t n z.1)) (yp_wE t n z.1, z.2))
  else if d = 0 then some ((3, yp_sk t n z.1), z)
  else yp_twoO t n S (yp_widx yp_C2 (yp_wC t n z.1)) (yp_wE t n z.1) z
set_option maxHeartbeats 1000000 in
theorem yp_w2_ge {v : Nat} (h : 8 ≤ yp_widx yp_C2 v) : (v ≠ 525908 ∧ v ≠ 447592 ∧ v ≠ 71108 ∧ v ≠ 1420) ∧ v ≠ 21015726 ∧ v ≠ 21678547 ∧ v ≠ 4153 ∧ v ≠ 206975479 := by
  refine ⟨⟨fun e => ?_, fun e => ?_, fun e => ?_, fun e => ?_⟩, fun e => ?_, fun e => ?_, fun e => ?_, fun e => ?_⟩ <;> (rw [e] at h; exact absurd h (by decide))
set_option maxHeartbeats 1000000 in
theorem yp_w2_lt {v : Nat} (h : yp_widx yp_C2 v < 8) : v ≠ 12748404 ∧ v ≠ 441972 := by
  refine ⟨fun e => ?_, fun e => ?_⟩ <;> (rw [e] at h; exact absurd h (by decide))
set_option maxHeartbeats 1000000 in
theorem yp_w2_no {v : Nat} (h : yp_widx yp_C2 v = 10) : v ≠ 12748404 ∧ v ≠ 441972 := by
  refine ⟨fun e => ?_, fun e => ?_⟩ <;> (rw [e] at h; exact absurd h (by decide))
section UNIT
variable {B : Nat} {t : Nat → Nat} {n : Nat}
set_option maxHeartbeats 1000000 in
theorem yp_m_fact1 {m : Mem} {p : Nat} (h : yp_RT B m t n p) (hj : yp_widx yp_C2 (yp_wC t n p) < 8) : fX12_factHere (yp_SH B) (B + 517) m = some (yp_N (yp_widx yp_C2 (yp_wC t n p)), yp_rAt B m (yp_sk t n p)) := by
  have hM := yp_mS B
  have hO := yp_ofS
  have e1 := yp_m_word h
  have hv := yp_widx_get yp_C2 (yp_widx yp_C2 (yp_wC t n p)) rfl (Nat.lt_trans hj (by decide))
  generalize yp_widx yp_C2 (yp_wC t n p) = j at hj hv
  generalize yp_wC t n p = v at e1 hv
  have : j = 0 ∨ j = 1 ∨ j = 2 ∨ j = 3 ∨ j = 4 ∨ j = 5 ∨ j = 6 ∨ j = 7 := by omega
  rcases this with rfl | rfl | rfl | rfl | rfl | rfl | rfl | rfl
  · obtain rfl : v = 525908 := hv
    simp (disch := omega) only [fX12_factHere_j112, fX12_factHere, hM, hO, e1, Nat.reduceAdd, Nat.reduceMul, Nat.reduceSub, Nat.zero_add, Nat.add_zero, yp_LT, yp_nA, yp_nM, yp_ltF, yp_ltT, yp_leF, yp_leT, yp_eqF, eq_self, yp_eqM, yp_lt1N, yp_sbN, yp_sb2N, ↓reduceIte, ↓yp_iP11, ↓yp_iP12, ↓yp_m0P]
  · obtain rfl : v = 447592 := hv
    simp (disch := omega) only [fX12_factHere_j112, fX12_factHere, hM, hO, e1, Nat.reduceAdd, Nat.reduceMul, Nat.reduceSub, Nat.zero_add, Nat.add_zero, yp_LT, yp_nA, yp_nM, yp_ltF, yp_ltT, yp_leF, yp_leT, yp_eqF, eq_self, yp_eqM, yp_lt1N, yp_sbN, yp_sb2N, ↓reduceIte, ↓yp_iP11, ↓yp_iP12, ↓yp_m0P]
  · obtain rfl : v = 71108 := hv
    simp (disch := omega) only [fX12_factHere_j112, fX12_factHere, hM, hO, e1, Nat.reduceAdd, Nat.reduceMul, Nat.reduceSub, Nat.zero_add, Nat.add_zero, yp_LT, yp_nA, yp_nM, yp_ltF, yp_ltT, yp_leF, yp_leT, yp_eqF, eq_self, yp_eqM, yp_lt1N, yp_sbN, yp_sb2N, ↓reduceIte, ↓yp_iP11, ↓yp_iP12, ↓yp_m0P]
  · obtain rfl : v = 1420 := hv
    simp (disch := omega) only [fX12_factHere_j112, fX12_factHere, hM, hO, e1, Nat.reduceAdd, Nat.reduceMul, Nat.reduceSub, Nat.zero_add, Nat.add_zero, yp_LT, yp_nA, yp_nM, yp_ltF, yp_ltT, yp_leF, yp_leT, yp_eqF, eq_self, yp_eqM, yp_lt1N, yp_sbN, yp_sb2N, ↓reduceIte, ↓yp_iP11, ↓yp_iP12, ↓yp_m0P]
  · obtain rfl : v = 21015726 := hv
    simp (disch := omega) only [fX12_factHere_j112, fX12_factHere, hM, hO, e1, Nat.reduceAdd, Nat.reduceMul, Nat.reduceSub, Nat.zero_add, Nat.add_zero, yp_LT, yp_nA, yp_nM, yp_ltF, yp_ltT, yp_leF, yp_leT, yp_eqF, eq_self, yp_eqM, yp_lt1N, yp_sbN, yp_sb2N, ↓reduceIte, ↓yp_iP11, ↓yp_iP12, ↓yp_m0P]
  · obtain rfl : v = 21678547 := hv
    simp (disch := omega) only [fX12_factHere_j112, fX12_factHere, hM, hO, e1, Nat.reduceAdd, Nat.reduceMul, Nat.reduceSub, Nat.zero_add, Nat.add_zero, yp_LT, yp_nA, yp_nM, yp_ltF, yp_ltT, yp_leF, yp_leT, yp_eqF, eq_self, yp_eqM, yp_lt1N, yp_sbN, yp_sb2N, ↓reduceIte, ↓yp_iP11, ↓yp_iP12, ↓yp_m0P]
  · obtain rfl : v = 4153 := hv
    simp (disch := omega) only [fX12_factHere_j112, fX12_factHere, hM, hO, e1, Nat.reduceAdd, Nat.reduceMul, Nat.reduceSub, Nat.zero_add, Nat.add_zero, yp_LT, yp_nA, yp_nM, yp_ltF, yp_ltT, yp_leF, yp_leT, yp_eqF, eq_self, yp_eqM, yp_lt1N, yp_sbN, yp_sb2N, ↓reduceIte, ↓yp_iP11, ↓yp_iP12, ↓yp_m0P]
  · obtain rfl : v = 206975479 := hv
    simp (disch := omega) only [fX12_factHere_j112, fX12_factHere, hM, hO, e1, Nat.reduceAdd, Nat.reduceMul, Nat.reduceSub, Nat.zero_add, Nat.add_zero, yp_LT, yp_nA, yp_nM, yp_ltF, yp_ltT, yp_leF, yp_leT, yp_eqF, eq_self, yp_eqM, yp_lt1N, yp_sbN, yp_sb2N, ↓reduceIte, ↓yp_iP11, ↓yp_iP12, ↓yp_m0P]
set_option maxHeartbeats 1000000 in
theorem yp_m_fact0 {m : Mem} {p : Nat} (h : yp_RT B m t n p) (hj : 8 ≤ yp_widx yp_C2 (yp_wC t n p)) : fX12_factHere (yp_SH B) (B + 517) m = some (-yp_N 1, yp_rAt B m (yp_sk t n p)) := by
  have hM := yp_mS B
  have hO := yp_ofS
  have e1 := yp_m_word h
  have hw := yp_wC_lt t n p
  have hv := yp_w2_ge hj
  generalize yp_wC t n p = v at e1 hv hw
  obtain ⟨⟨v1, v2, v3, v4⟩, v5, v6, v7, v8⟩ := hv
  simp (disch := omega) only [fX12_factHere_j112, fX12_factHere, hM, hO, e1, Nat.reduceAdd, Nat.reduceMul, Nat.reduceSub, Nat.zero_add, Nat.add_zero, yp_LT, yp_nA, yp_nM, yp_ltF, yp_ltT, yp_leF, yp_leT, yp_eqF, eq_self, yp_eqM, yp_lt1N, yp_sbN, yp_sb2N, ↓reduceIte, ↓yp_iP11, ↓yp_iP12, ↓yp_m0P]
set_option maxHeartbeats 1000000 in
theorem yp_m_open1 {m : Mem} {z : yp_LwT} {o : Nat} (h : yp_LM B m t n z o) (ho : o ≤ 5) (b : Nat) (hb : z.1 + b ≤ n) : fX12_opensOne (yp_SH B) (B + 517) (yp_N b) m = some (up2 (yp_rAt B m (z.1 + b)) (B + 517) 7 (yp_N (o + 1))) := by
  have hM := yp_mS B
  have f := yp_m_fine1 h.2.1
  have c4 := h.1.1.2.1
  have c7 := h.2.2.2.2.2
  have g7 : up2 m (B + 517) 4 (yp_N (z.1 + b)) (B + 517) 7 = yp_N o := by rw [yp_up2_n _ _ (by omega)]; exact c7
  simp (disch := omega) only [fX12_opensOne_j42, fX12_opensOne_j25, fX12_opensOne, hM, f, c4, c7, g7, Nat.reduceAdd, Nat.reduceMul, Nat.reduceSub, Nat.zero_add, Nat.add_zero, yp_LT, yp_nA, yp_nM, yp_ltF, yp_ltT, yp_leF, yp_leT, yp_eqF, eq_self, yp_eqM, yp_lt1N, yp_sbN, yp_sb2N, ↓reduceIte, ↓yp_iP11, ↓yp_iP12, ↓yp_m0P]
  rfl
set_option maxHeartbeats 1000000 in
theorem yp_m_open0 {m : Mem} {z : yp_LwT} (h : yp_LM B m t n z 6) (b : Int32) : fX12_opensOne (yp_SH B) (B + 517) b m = some (up2 (yp_rF B m 3 z.1) (B + 517) 7 (yp_N 7)) := by
  have hM := yp_mS B
  have f := yp_m_fine1 h.2.1
  have c4 := h.1.1.2.1
  have c7 := h.2.2.2.2.2
  have hl := h.1.2.2.1
  have hn := h.1.2.1
  have g1 := yp_m_wrong1 h.2.1 3 z.1
  have f2 := yp_m_fine0 (yp_rF_x (B := B) (m := m) (k := 3) (x := z.1) (by omega))
  have g7 : yp_rF B m 3 z.1 (B + 517) 7 = yp_N 6 := by rw [yp_rF_n _ _ (by omega)]; exact c7
  simp (disch := omega) only [fX12_opensOne_j42, fX12_opensOne_j25, fX12_opensOne, hM, f, c4, c7, g1, f2, g7, Nat.reduceAdd, Nat.reduceMul, Nat.reduceSub, Nat.zero_add, Nat.add_zero, yp_LT, yp_nA, yp_nM, yp_ltF, yp_ltT, yp_leF, yp_leT, yp_eqF, eq_self, yp_eqM, yp_lt1N, yp_sbN, yp_sb2N, ↓reduceIte, ↓yp_iP11, ↓yp_iP12, ↓yp_m0P]
set_option maxHeartbeats 1000000 in
theorem yp_LM.o {m : Mem} {z : yp_LwT} {o : Nat} (h : yp_LM B m t n z o) (o' : Nat) : yp_LM B (up2 m (B + 517) 7 (yp_N o')) t n z o' :=
  ⟨h.1.fr (fun a j q => yp_up2_n _ _ (by omega)), by rw [yp_up2_n _ _ (by omega)]; exact h.2.1, by rw [yp_up2_n _ _ (by omega)]; exact h.2.2.1, h.2.2.2.1, fun k hk => ⟨by rw [yp_up2_n _ _ (by omega)]; exact (h.2.2.2.2.1 k hk).1, by rw [yp_up2_n _ _ (by omega)]; exact (h.2.2.2.2.1 k hk).2⟩, yp_up2_s _ _ _ _⟩
set_option maxHeartbeats 1000000 in
theorem yp_Fr_7 {m : Mem} (v : Int32) : yp_Fr (yp_TLm B) m (up2 m (B + 517) 7 v) := fun a j q => yp_up2_n _ _ (by unfold yp_TLm at q; omega)
set_option maxHeartbeats 1000000 in
theorem yp_RS7 {m : Mem} {a : Nat × Nat} (h : yp_RS B m a) (v : Int32) : yp_RS B (up2 m (B + 517) 7 v) a := h.fr (fun j q => yp_up2_n _ _ (by omega))
set_option maxHeartbeats 1000000 in
theorem yp_seven {m : Mem} {o : Nat} (h : m (B + 517) 7 = yp_N (o + 1)) : m (B + 517) 7 - yp_N 1 = yp_N o := by rw [h, yp_nS (by omega)]; rfl
set_option maxHeartbeats 1000000 in
theorem yp_LC_wan {m : Mem} {z : yp_LwT} (h : yp_LC B m t n z) (c : Nat) (hc : c < 256) : ∃ v m', fX8_wants (yp_SH B) (B + 1) (yp_N c) m = some (v, m') ∧ yp_Fr (yp_TLc B) m m' ∧ (yp_sgk t n z.1 c = 0 → v = yp_N 1 ∧ yp_LC B m' t n (yp_sk t n z.1 + 1, z.2)) ∧ (¬ yp_sgk t n z.1 c = 0 → v = yp_N 0 ∧ yp_FL B m' = yp_FLk (yp_sgk t n z.1 c, yp_sk t n z.1)) := by
  obtain ⟨v, m', q, e1, e2, e3, e4, e5, e6⟩ := yp_k_wan (a := (0, 0)) h.1 (by rw [h.2.1]; rfl) ⟨by decide, by decide⟩ c hc
  rw [yp_fa1 _ rfl] at e6
  have hs := yp_sk_ge t n z.1
  refine ⟨v, m', e1, yp_T35_lc e2, fun k => ?_, fun k => ⟨e5 k, e6⟩⟩
  obtain ⟨g1, g2⟩ := e4 k
  rw [g2] at e3
  exact ⟨g1, h.mv (by omega) e3 (by rw [e6, yp_FLk_0 k]) e2⟩
set_option maxHeartbeats 1000000 in
theorem yp_LM_sg {m : Mem} {z : yp_LwT} {o : Nat} (h : yp_LM B m t n z o) (c : Nat) (hc1 : 1 ≤ c) (hc : c < 256) : ∃ m', fX12_sign (yp_SH B) (B + 517) (yp_N c) m = some m' ∧ yp_Fr (yp_TLm B) m m' ∧ yp_RS B m' (yp_sgk t n z.1 c, yp_sk t n z.1) ∧ m' (B + 517) 7 = yp_N o ∧ (yp_sgk t n z.1 c = 0 → yp_LM B m' t n (yp_sk t n z.1 + 1, z.2) o) := by
  have hs := yp_sk_ge t n z.1
  obtain ⟨m', e1, e2, e3, e4⟩ := yp_r_sg (a := (0, 0)) (m := m) (t := t) (n := n) (p := z.1) ⟨⟨by decide, by decide⟩, .inl ⟨rfl, h.2.1⟩⟩ (fun _ => h.1) h.1.2.2.1 h.1.2.1 c hc1 hc
  rw [yp_fa1 _ rfl] at e3 e4
  exact ⟨m', e1, yp_T46_lm e2, e3, (e2 _ _ (by unfold yp_T46; omega)).trans h.2.2.2.2.2, fun k => h.mv (by omega) (e4 k) (e3.fine k) e2⟩
set_option maxHeartbeats 1000000 in
theorem yp_sgk_n {p c : Nat} (h : yp_sgk t n p c = 0) : yp_sk t n p + 1 ≤ n := (yp_sgk0 h).1
set_option maxHeartbeats 1000000 in
theorem yp_iP8 {γ : Type} (B : Nat) (F : Unit → Option γ) : (isO (yp_SH B) 8 (B + 1)).bind F = F () := yp_opP (yp_tapS B).2.1 F
set_option maxHeartbeats 1000000 in
theorem yp_iP4 {γ : Type} (B : Nat) (F : Unit → Option γ) : (isO (yp_SH B) 4 (B + 14)).bind F = F () := yp_opP (yp_lspS B).2.1 F
set_option maxHeartbeats 1000000 in
theorem yp_K_par {S : yp_LwT → Option yp_LwR} {Sc : Nat → Nat → Int32 → Mem → Option (Int32 × Mem)} {Sm : Nat → Mem → Option Mem} {o d : Nat} (hn : n ≤ 150) (hd : o + d = 6) (hd0 : d ≠ 0) (hS : yp_KU B t n (o + 1) S (fun m => Sc (B + 14) (B + 1) (yp_N (o + 1)) m) (fun m => Sm (B + 517) m)) (z : yp_LwT) (h1 : z.1 ≤ n) (h2 : z.2.1 ≤ z.1) (c1 : ¬ (yp_sk t n z.1 < n ∧ yp_dg t (yp_sk t n z.1) = true)) (c2 : yp_sk t n z.1 < n ∧ t (yp_sk t n z.1) = 40) : ∃ r, yp_parO t n S z = some r ∧ yp_fok r.1 ∧ (r.1.1 = 0 → yp_PQ n z r.2 1) ∧ yp_KC2 B t n z r (fun m => fX4_readUnit_o (yp_SH B) Sc (B + 14) (B + 1) (yp_N o) m) ∧ yp_KM2 B t n o z r (fun m => fX12_readUnit_o (yp_SH B) Sm (B + 517) m) := by
  have hT := yp_tapS B
  have hL := yp_lspS B
  have hM := yp_mS B
  have hs := yp_sk_ge t n z.1
  have hs2 := yp_sk_le (t := t) h1
  obtain ⟨r1, a1, a2, a3, a4, a5⟩ := hS.1 (yp_sk t n z.1 + 1, z.2) (by show yp_sk t n z.1 + 1 ≤ n; omega) (by show z.2.1 ≤ yp_sk t n z.1 + 1; omega)
  have goC : ∀ m, yp_LC B m t n z → fX8_next (yp_SH B) (B + 1) m = some (yp_N (yp_sk t n z.1), yp_cAt B m (yp_sk t n z.1)) ∧ fX8_seesDigit (yp_SH B) (B + 1) (yp_cAt B m (yp_sk t n z.1)) = some (yp_N 0, yp_cAt B m (yp_sk t n z.1)) ∧ fX8_takes (yp_SH B) (B + 1) 40 (yp_cAt B m (yp_sk t n z.1)) = some (yp_N 1, yp_cAt B m (yp_sk t n z.1 + 1)) := fun m hm => by
    have q := hm.1.at hs2
    have e1 := yp_c_seesD q
    rw [yp_sk_fix, yp_cAt2, if_neg c1] at e1
    have e2 := yp_c_takes1 q 40 (by omega) (by rw [yp_sk_fix]; exact c2)
    rw [yp_sk_fix, yp_cAt2] at e2
    exact ⟨yp_c_next hm.1, e1, e2⟩
  have so : yp_N (o + 1) - yp_N 1 = yp_N o := by rw [yp_nS (by omega)]; rfl
  have goM : ∀ m, yp_LM B m t n z o → ∃ m1, fX12_here (yp_SH B) (B + 517) m = some (yp_N 40, yp_rAt B m (yp_sk t n z.1)) ∧ fX12_opensOne (yp_SH B) (B + 517) (yp_N 1) (yp_rAt B m (yp_sk t n z.1)) = some m1 ∧ yp_LM B m1 t n (yp_sk t n z.1 + 1, z.2) (o + 1) ∧ yp_Fr (yp_TLm B) m m1 := fun m hm => by
    have e1 := yp_m_here hm.1
    rw [if_pos c2.1, c2.2] at e1
    have g := hm.at hs hs2
    have e2 := yp_m_open1 g (by omega) 1 (by show yp_sk t n z.1 + 1 ≤ n; omega)
    have e2 : fX12_opensOne (yp_SH B) (B + 517) (yp_N 1) (yp_rAt B m (yp_sk t n z.1)) = some (up2 (yp_rAt B (yp_rAt B m (yp_sk t n z.1)) (yp_sk t n z.1 + 1)) (B + 517) 7 (yp_N (o + 1))) := e2
    rw [yp_rAt2] at e2
    exact ⟨_, e1, e2, (hm.at (q := yp_sk t n z.1 + 1) (by omega) (by omega)).o (o + 1), (yp_T46_lm (yp_Fr_rAt _)).tr (yp_Fr_7 _)⟩
  by_cases k1 : r1.1.1 = 0
  · have q1 := a3 k1
    have q2 := q1.lt
    have q2 : yp_sk t n z.1 + 1 < r1.2.1 := q2
    have q3 := q1.2.1
    have q4 := yp_sk_le (t := t) q3
    have q5 := yp_sk_ge t n r1.2.1
    refine ⟨((yp_sgk t n r1.2.1 41, yp_sk t n r1.2.1), (yp_sk t n r1.2.1 + 1, r1.2.2)), ?_, yp_sgk_ok q3 (by omega) 41, fun k => ?_, fun m hm => ?_, fun m hm => ?_⟩
    · unfold yp_parO
      rw [a1]
      exact if_pos k1
    · exact (q1.st (by show z.1 ≤ yp_sk t n z.1 + 1; omega)).en (q := yp_sk t n r1.2.1 + 1) (by omega) (yp_sgk_n k)
    · obtain ⟨e0, e1, e2⟩ := goC m hm
      obtain ⟨m1, yp_b1, b2, b3, b4⟩ := a4 _ (hm.at (q := yp_sk t n z.1 + 1) (by omega) (by omega))
      rw [if_pos k1] at yp_b1
      have yp_b1 : Sc (B + 14) (B + 1) (yp_N o + 1) (yp_cAt B m (yp_sk t n z.1 + 1)) = some (yp_N 1, m1) := by rw [show yp_N o + 1 = yp_N (o + 1) from yp_nA o 1]; exact yp_b1
      obtain ⟨v, m2, d1, d2, d3, d4⟩ := yp_LC_wan (b4 k1) 41 (by omega)
      have d1 : fX8_wants (yp_SH B) (B + 1) 41 m1 = some (v, m2) := d1
      have F : yp_Fr (yp_TLc B) m m2 := ((yp_T35_lc (yp_Fr_at _)).tr b2).tr d2
      by_cases k2 : yp_sgk t n r1.2.1 41 = 0
      · obtain ⟨rfl, d5⟩ := d3 k2
        refine ⟨m2, ?_, F, by rw [d5.2.1, yp_FLk_0 k2], fun _ => d5⟩
        rw [if_pos (show (yp_sgk t n r1.2.1 41, yp_sk t n r1.2.1).1 = 0 from k2)]
        simp (disch := omega) only [fX4_readUnit_o, fX4_readUnit_j92, fX4_readUnit_j82, ↓yp_iP8, ↓yp_iP4, ↓yp_bdP e0, ↓yp_bdP e1, ↓yp_bdP e2, ↓yp_bdP yp_b1, ↓yp_bdP d1, yp_ck1, yp_ck0, Nat.reduceAdd, Nat.reduceMul, Nat.reduceSub, Nat.zero_add, Nat.add_zero, yp_LT, yp_nA, yp_nM, yp_ltF, yp_ltT, yp_leF, yp_leT, yp_eqF, eq_self, yp_eqM, yp_lt1N, yp_sbN, yp_sb2N, ↓reduceIte, ↓yp_iP11, ↓yp_iP12, ↓yp_m0P]
      · obtain ⟨rfl, d5⟩ := d4 k2
        refine ⟨m2, ?_, F, d5, fun q => absurd q k2⟩
        rw [if_neg (show ¬ (yp_sgk t n r1.2.1 41, yp_sk t n r1.2.1).1 = 0 from k2)]
        simp (disch := omega) only [fX4_readUnit_o, fX4_readUnit_j92, fX4_readUnit_j82, ↓yp_iP8, ↓yp_iP4, ↓yp_bdP e0, ↓yp_bdP e1, ↓yp_bdP e2, ↓yp_bdP yp_b1, ↓yp_bdP d1, yp_ck1, yp_ck0, Nat.reduceAdd, Nat.reduceMul, Nat.reduceSub, Nat.zero_add, Nat.add_zero, yp_LT, yp_nA, yp_nM, yp_ltF, yp_ltT, yp_leF, yp_leT, yp_eqF, eq_self, yp_eqM, yp_lt1N, yp_sbN, yp_sb2N, ↓reduceIte, ↓yp_iP11, ↓yp_iP12, ↓yp_m0P]
    · have f0 := yp_m_fine1 hm.2.1
      obtain ⟨m1, e1, e2, e3, e4⟩ := goM m hm
      obtain ⟨m2, yp_b1, b2, b3, b4⟩ := a5 m1 e3
      have yp_b1 : Sm (B + 517) m1 = some m2 := yp_b1
      have g2 := b4 k1
      obtain ⟨m3, d1, d2, d3, d4, d5⟩ := yp_LM_sg g2 41 (by omega) (by omega)
      refine ⟨up2 m3 (B + 517) 7 (yp_N o), ?_, ((e4.tr b2).tr d2).tr (yp_Fr_7 _), yp_RS7 d3 _, fun k => (d5 k).o o⟩
      simp (disch := omega) only [fX12_readUnit_o, fX12_readUnit_j153, ↓yp_opP f0, ↓yp_bdP e1, ↓yp_opP e2, ↓yp_opP yp_b1, ↓yp_opP d1, hM, d4, so, Nat.reduceAdd, Nat.reduceMul, Nat.reduceSub, Nat.zero_add, Nat.add_zero, yp_LT, yp_nA, yp_nM, yp_ltF, yp_ltT, yp_leF, yp_leT, yp_eqF, eq_self, yp_eqM, yp_lt1N, yp_sbN, yp_sb2N, ↓reduceIte, ↓yp_iP11, ↓yp_iP12, ↓yp_m0P]
  · refine ⟨r1, ?_, a2, fun q => absurd q k1, fun m hm => ?_, fun m hm => ?_⟩
    · unfold yp_parO
      rw [a1]
      exact if_neg k1
    · obtain ⟨e0, e1, e2⟩ := goC m hm
      obtain ⟨m1, yp_b1, b2, b3, b4⟩ := a4 _ (hm.at (q := yp_sk t n z.1 + 1) (by omega) (by omega))
      rw [if_neg k1] at yp_b1 ⊢
      have yp_b1 : Sc (B + 14) (B + 1) (yp_N o + 1) (yp_cAt B m (yp_sk t n z.1 + 1)) = some (yp_N 0, m1) := by rw [show yp_N o + 1 = yp_N (o + 1) from yp_nA o 1]; exact yp_b1
      refine ⟨m1, ?_, (yp_T35_lc (yp_Fr_at _)).tr b2, b3, fun q => absurd q k1⟩
      simp (disch := omega) only [fX4_readUnit_o, fX4_readUnit_j92, fX4_readUnit_j82, ↓yp_iP8, ↓yp_iP4, ↓yp_bdP e0, ↓yp_bdP e1, ↓yp_bdP e2, ↓yp_bdP yp_b1, yp_ck1, yp_ck0, Nat.reduceAdd, Nat.reduceMul, Nat.reduceSub, Nat.zero_add, Nat.add_zero, yp_LT, yp_nA, yp_nM, yp_ltF, yp_ltT, yp_leF, yp_leT, yp_eqF, eq_self, yp_eqM, yp_lt1N, yp_sbN, yp_sb2N, ↓reduceIte, ↓yp_iP11, ↓yp_iP12, ↓yp_m0P]
    · have f0 := yp_m_fine1 hm.2.1
      obtain ⟨m1, e1, e2, e3, e4⟩ := goM m hm
      obtain ⟨m2, yp_b1, b2, b3, b4⟩ := a5 m1 e3
      have yp_b1 : Sm (B + 517) m1 = some m2 := yp_b1
      have d1 := yp_m_signX (b3.bad k1) (yp_N 41)
      refine ⟨up2 m2 (B + 517) 7 (m2 (B + 517) 7 - yp_N 1), ?_, (e4.tr b2).tr (yp_Fr_7 _), yp_RS7 b3 _, fun k => absurd k k1⟩
      simp (disch := omega) only [fX12_readUnit_o, fX12_readUnit_j153, ↓yp_opP f0, ↓yp_bdP e1, ↓yp_opP e2, ↓yp_opP yp_b1, ↓yp_opP d1, hM, Nat.reduceAdd, Nat.reduceMul, Nat.reduceSub, Nat.zero_add, Nat.add_zero, yp_LT, yp_nA, yp_nM, yp_ltF, yp_ltT, yp_leF, yp_leT, yp_eqF, eq_self, yp_eqM, yp_lt1N, yp_sbN, yp_sb2N, ↓reduceIte, ↓yp_iP11, ↓yp_iP12, ↓yp_m0P]
end UNIT

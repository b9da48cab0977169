set_option maxHeartbeats 1000000 in
theorem yp_fL_lS (B : Nat) (m : Mem) (v : Int64) : ∃ m2, lS (yp_SH B) m (B + 542) 0 v = some m2 ∧ cmb (m2 (B + 542) 0) (m2 (B + 542) 1) = v ∧ ∀ a j, a ≠ B + 542 → m2 a j = m a j := by
  refine ⟨up2 (up2 m (B + 542) 0 (hiL v)) (B + 542) 1 (loL v), ?_, ?_, fun a j h => ?_⟩
  · rw [lS, yp_st542]
    rfl
  · rw [yp_up2_s, yp_up2_n _ _ (by omega), yp_up2_s]
    exact cmb_of v
  · rw [yp_up2_n _ _ (by omega), yp_up2_n _ _ (by omega)]
set_option maxHeartbeats 1000000 in
theorem yp_fL_lL (B : Nat) (m : Mem) : lL (yp_SH B) m (B + 542) 0 = some (cmb (m (B + 542) 0) (m (B + 542) 1)) := by
  rw [lL, yp_st542]
  rfl
set_option maxHeartbeats 1000000 in
theorem yp_lg_self (v : Int64) : lg_cmp v v = 0 := by
  unfold lg_cmp
  rw [if_neg (by exact Int64.lt_irrefl), if_pos rfl]
set_option maxHeartbeats 1000000 in
theorem yp_isO11 (B : Nat) : isO (yp_SH B) 11 B = some () := by rw [isO, yp_so00]; rfl
set_option maxHeartbeats 1000000 in
theorem yp_isO12 (B : Nat) : isO (yp_SH B) 12 (B + 517) = some () := by rw [isO, yp_so517]; rfl
set_option maxHeartbeats 1000000 in
theorem yp_m_thrown (B : Nat) (m : Mem) : fX12_thrown (yp_SH B) (B + 517) m = some (m (B + 517) 0) := by
  rw [fX12_thrown, rI, yp_so517]; rfl
set_option maxHeartbeats 1000000 in
theorem yp_case_v {f : Option ((Int32 ⊕ Nat) × Mem)} {g : Mem → Option (Int32 × Mem)} {hc : Nat → Option Int32} {i1 i2 : Option Unit} {ls : Mem → Int64 → Option Mem} {ll : Mem → Option Int64} {th : Mem → Option Int32} {v : Int32} {m1 m2 m3 : Mem} (h1 : i1 = some ()) (h2 : i2 = some ()) (e1 : f = some (.inl v, m1)) (e2 : ls m1 v.toInt64 = some m2) (e3 : g m2 = some (v, m3)) (e4 : th m3 = some 0) (e5 : ll m3 = some v.toInt64) : (bd2 (i1.bind fun _ => bd2 f fun u m1 => sme u (fun r1 => (ls m1 (r1.toInt64)).bind fun m2 => some (0, m2)) (fun k => (hc k).bind fun z => some (z, m1))) fun v2 m3 => lt1 v2 fun x5 => i2.bind fun _ => bd2 (g m3) fun v6 m7 => lt1 v6 fun x6 => i2.bind fun _ => (th m7).bind fun v9 => if v9 = x5 then (if x5 = 0 then ((ll m7).bind fun v12 => if (lg_cmp v12 (x6.toInt64)) = 0 then (some (.inl m7) : Option (Mem ⊕ Int32)) else (some (.inr 0))) else (some (.inl m7))) else (some (.inr 0))) = some (.inl m3) := by
  subst h1 h2 e1
  simp only [yp_sb, yp_sb2, sme, lt1, e2, e3, e4, e5, if_true, yp_lg_self]
set_option maxHeartbeats 1000000 in
theorem yp_case_t {f : Option ((Int32 ⊕ Nat) × Mem)} {g : Mem → Option (Int32 × Mem)} {hc : Nat → Option Int32} {i1 i2 : Option Unit} {ls : Mem → Int64 → Option Mem} {ll : Mem → Option Int64} {th : Mem → Option Int32} {t w : Int32} {k : Nat} {m1 m3 : Mem} (h1 : i1 = some ()) (h2 : i2 = some ()) (e1 : f = some (.inr k, m1)) (e2 : hc k = some t) (e3 : g m1 = some (w, m3)) (e4 : th m3 = some t) (e5 : ¬ t = 0) : (bd2 (i1.bind fun _ => bd2 f fun u m1 => sme u (fun r1 => (ls m1 (r1.toInt64)).bind fun m2 => some (0, m2)) (fun k => (hc k).bind fun z => some (z, m1))) fun v2 m3 => lt1 v2 fun x5 => i2.bind fun _ => bd2 (g m3) fun v6 m7 => lt1 v6 fun x6 => i2.bind fun _ => (th m7).bind fun v9 => if v9 = x5 then (if x5 = 0 then ((ll m7).bind fun v12 => if (lg_cmp v12 (x6.toInt64)) = 0 then (some (.inl m7) : Option (Mem ⊕ Int32)) else (some (.inr 0))) else (some (.inl m7))) else (some (.inr 0))) = some (.inl m3) := by
  subst h1 h2 e1
  simp only [yp_sb, yp_sb2, sme, lt1, e2, e3, e4, e5, if_true, if_false]
set_option maxHeartbeats 1000000 in
theorem yp_case_fin {B : Nat} {mm : Mem} {A A' : yp_St} {f : Option ((Int32 ⊕ Nat) × Mem)} {g : Mem → Option (Int32 × Mem)} {hc : Nat → Option Int32} {o : Int32 ⊕ Nat} {t v : Int32} (hR : yp_RMm B mm A) (hI' : yp_INV A') (hC : yp_CA B f mm o A') (hM : ∀ m, yp_RMm B m A → yp_MA B (g m) m t v A') (ho : (o = .inl v ∧ t = yp_N 0) ∨ (∃ k, o = .inr k ∧ hc k = some t ∧ t ≠ yp_N 0)) : ∃ m', (bd2 ((isO (yp_SH B) 11 B).bind fun _ => bd2 f fun u m1 => sme u (fun r1 => (lS (yp_SH B) m1 (B + 542) 0 (r1.toInt64)).bind fun m2 => some (0, m2)) (fun k => (hc k).bind fun z => some (z, m1))) fun v2 m3 => lt1 v2 fun x5 => (isO (yp_SH B) 12 (B + 517)).bind fun _ => bd2 (g m3) fun v6 m7 => lt1 v6 fun x6 => (isO (yp_SH B) 12 (B + 517)).bind fun _ => (fX12_thrown (yp_SH B) (B + 517) m7).bind fun v9 => if v9 = x5 then (if x5 = 0 then ((lL (yp_SH B) m7 (B + 542) 0).bind fun v12 => if (lg_cmp v12 (x6.toInt64)) = 0 then (some (.inl m7) : Option (Mem ⊕ Int32)) else (some (.inr 0))) else (some (.inl m7))) else (some (.inr 0))) = some (.inl m') ∧ yp_RCc B m' A' ∧ yp_RMm B m' A' := by
  obtain ⟨m1, e1, r1, q1⟩ := hC
  rcases ho with ⟨rfl, rfl⟩ | ⟨k, rfl, hk, ht⟩
  · obtain ⟨m2, e2, c2, q2⟩ := yp_fL_lS B m1 v.toInt64
    have R2 : yp_RMm B m2 A := hR.fr (fun a j h => by
      unfold yp_KM at h
      rw [q2 a j (by omega), q1 a j (by omega)])
    obtain ⟨m3, w, e3, t3, w3, r3, q3⟩ := hM m2 R2
    have w3 := w3 rfl
    subst w3
    refine ⟨m3, ?_, ?_, r3⟩
    · exact yp_case_v (ls := fun m v => lS (yp_SH B) m (B + 542) 0 v) (ll := fun m => lL (yp_SH B) m (B + 542) 0) (th := fun m => fX12_thrown (yp_SH B) (B + 517) m) (yp_isO11 B) (yp_isO12 B) e1 e2 e3 ((yp_m_thrown B m3).trans (congrArg some t3)) ((yp_fL_lL B m3).trans (by rw [q3 (B + 542) 0 (by omega), q3 (B + 542) 1 (by omega), c2]))
    · refine r1.fr hI' (fun a j h => ?_)
      unfold yp_KC at h
      rw [q3 a j (by omega), q2 a j (by omega)]
  · have R2 : yp_RMm B m1 A := hR.fr (fun a j h => by
      unfold yp_KM at h
      rw [q1 a j (by omega)])
    obtain ⟨m3, w, e3, t3, w3, r3, q3⟩ := hM m1 R2
    refine ⟨m3, ?_, ?_, r3⟩
    · exact yp_case_t (ls := fun m v => lS (yp_SH B) m (B + 542) 0 v) (ll := fun m => lL (yp_SH B) m (B + 542) 0) (th := fun m => fX12_thrown (yp_SH B) (B + 517) m) (yp_isO11 B) (yp_isO12 B) e1 hk e3 ((yp_m_thrown B m3).trans (congrArg some t3)) ht
    · refine r1.fr hI' (fun a j h => ?_)
      unfold yp_KC at h
      rw [q3 a j (by omega)]
def yp_COK (B : Nat) (r : Option (Mem ⊕ Int32)) : Prop := ∃ m' A', r = some (.inl m') ∧ yp_RCc B m' A' ∧ yp_RMm B m' A' ∧ yp_INV A'
set_option maxHeartbeats 1000000 in
theorem yp_scN {L : Nat} {xs : Nat → Int32} {i : Nat} (h : i < L) (hL : L ≤ 4608) : scL L xs (yp_N i) = some (xs i) := by
  unfold scL
  rw [yp_tcN (by omega), if_neg]
  rintro (h2 | h2)
  · exact yp_nnN (by omega) h2
  · omega
set_option maxHeartbeats 1000000 in
theorem yp_rng (x : Int32) (n : Nat) (hn : n < 2147483648) : (∃ k, k ≤ n ∧ x = yp_N k) ∨ (x < yp_N 0 ∧ ¬ yp_N n < x) ∨ (¬ x < yp_N 0 ∧ yp_N n < x) := by
  by_cases h : x < yp_N 0
  · refine .inr (.inl ⟨h, ?_⟩)
    rw [Int32.lt_iff_toInt_lt, yp_tiN hn]
    rw [Int32.lt_iff_toInt_lt, yp_tiN (by omega)] at h
    omega
  · have h2 : 0 ≤ x.toInt := by
      rw [Int32.lt_iff_toInt_lt, yp_tiN (by omega)] at h
      omega
    obtain ⟨k, rfl, h3, h4⟩ := yp_ofN h2
    by_cases h5 : k ≤ n
    · exact .inl ⟨k, h5, rfl⟩
    · refine .inr (.inr ⟨h, ?_⟩)
      rw [yp_ltN hn h4]
      omega
set_option maxHeartbeats 1000000 in
theorem yp_m_wi (x : Int32) (a b : Nat) : fX12_within x (yp_N a) (yp_N b) = some (if x < yp_N a then yp_N 0 else if yp_N b < x then yp_N 0 else yp_N 1) := by
  simp (disch := omega) only [fX12_within, fX12_within_j14, fX12_within_j15, yp_ck0, yp_ck1, Nat.reduceLeDiff, Nat.reduceLT, Nat.reduceAdd, Nat.reduceMul, Nat.reduceSub, Nat.reduceEqDiff, Nat.le_refl, Nat.lt_irrefl, Nat.zero_add, Nat.add_zero, yp_LT, yp_nA, yp_nM, yp_leN, yp_ltN, yp_eqN, lt1, yp_sb, yp_sb2, if_false, if_true]
  split
  · rfl
  · split <;> rfl
set_option maxHeartbeats 1000000 in
theorem yp_clsS (B : Nat) : (rR (yp_SH B) 11 B 0 = some (B + 1) ∧ rR (yp_SH B) 11 B 1 = some (B + 3) ∧ rR (yp_SH B) 11 B 2 = some (B + 7) ∧ rR (yp_SH B) 11 B 3 = some (B + 11) ∧ rR (yp_SH B) 11 B 4 = some (B + 14) ∧ rR (yp_SH B) 11 B 5 = some (B + 17) ∧ rR (yp_SH B) 11 B 6 = some (B + 20) ∧ rR (yp_SH B) 11 B 7 = some (B + 23) ∧ rR (yp_SH B) 11 B 8 = some (B + 27) ∧ rR (yp_SH B) 11 B 9 = some (B + 33) ∧ rR (yp_SH B) 11 B 10 = some (B + 39) ∧ rR (yp_SH B) 11 B 11 = some (B + 137) ∧ rR (yp_SH B) 11 B 14 = some (B + 453) ∧ rR (yp_SH B) 11 B 15 = some (B + 510)) ∧ isO (yp_SH B) 11 B = some () ∧ (∀ mm k, rI (yp_SH B) mm 11 B k = some (mm B k)) ∧ (∀ mm k v, wI (yp_SH B) mm 11 B k v = some (up2 mm B k v)) ∧ (∀ mm k, rI (yp_SH B) mm 1 (B + 3) k = some (mm (B + 3) k)) ∧ (∀ mm k, rI (yp_SH B) mm 0 (B + 17) k = some (mm (B + 17) k)) ∧ isO (yp_SH B) 2 (B + 33) = some () ∧ (∀ mm k, rI (yp_SH B) mm 8 (B + 1) k = some (mm (B + 1) k)) ∧ isO (yp_SH B) 5 (B + 23) = some () ∧ isO (yp_SH B) 1 (B + 3) = some () ∧ isO (yp_SH B) 0 (B + 17) = some () := by
  refine ⟨⟨?_, ?_, ?_, ?_, ?_, ?_, ?_, ?_, ?_, ?_, ?_, ?_, ?_, ?_⟩, yp_isO11 B, ?_, ?_, ?_, ?_, (yp_HSx (yp_hs33 B)).1.2.1, ?_, ?_, ?_, ?_⟩
  all_goals first | (rw [rR, yp_so00]; rfl) | (intro mm k; rw [rI, yp_so00]; rfl) | (intro mm k v; rw [wI, yp_so00]; rfl) | (intro mm k; rw [rI, yp_so3]; rfl) | (intro mm k; rw [rI, yp_so17]; rfl) | (intro mm k; rw [rI, yp_so1]; rfl) | (rw [isO, yp_so23]; rfl) | (rw [isO, yp_so3]; rfl) | (rw [isO, yp_so17]; rfl)
section NEED
variable {B : Nat} {mm : Mem} {A : yp_St}
set_option maxHeartbeats 1000000 in
theorem yp_c_need1 (B : Nat) (mm : Mem) : fX11_need (yp_SH B) B (yp_N 1) mm = some (.inl (), mm) := by
  simp (disch := omega) only [fX11_need, (show (1 = 0) = False by simp only [eq_iff_iff, iff_false]; omega), Nat.reduceLeDiff, Nat.reduceLT, Nat.reduceAdd, Nat.reduceMul, Nat.reduceSub, Nat.reduceEqDiff, Nat.le_refl, Nat.lt_irrefl, Nat.zero_add, Nat.add_zero, yp_LT, yp_nA, yp_nM, yp_leN, yp_ltN, yp_eqN, lt1, yp_sb, yp_sb2, if_false, if_true]
set_option maxHeartbeats 1000000 in
theorem yp_c_need0 (hR : yp_RCc B mm A) : fX11_need (yp_SH B) B (yp_N 0) mm = some (.inr 1, up2 mm B 17 (yp_sC1 A + yp_N 1)) := by
  have hA := yp_clsS B
  have e := hR.2.2.2.2.2.2.1.2.2
  simp (disch := omega) only [fX11_need, hA, e, Nat.reduceLeDiff, Nat.reduceLT, Nat.reduceAdd, Nat.reduceMul, Nat.reduceSub, Nat.reduceEqDiff, Nat.le_refl, Nat.lt_irrefl, Nat.zero_add, Nat.add_zero, yp_LT, yp_nA, yp_nM, yp_leN, yp_ltN, yp_eqN, lt1, yp_sb, yp_sb2, if_false, if_true]
set_option maxHeartbeats 1000000 in
theorem yp_c_needF (hR : yp_RCc B mm A) (hI : yp_INV A) (x : Int32) : (∃ k, k < yp_qf (yp_sQ A) ∧ x = yp_N k ∧ fX11_needFellow (yp_SH B) B x mm = some (.inl (), mm)) ∨ ((x < yp_N 0 ∨ yp_N (yp_qf (yp_sQ A)) ≤ x) ∧ fX11_needFellow (yp_SH B) B x mm = some (.inr 0, up2 mm B 16 (yp_sC0 A + yp_N 1))) := by
  have hA := yp_clsS B
  have e := hR.2.2.2.2.2.2.1.2.1
  have e1 := hR.1.1
  have hq := hI.1.1
  rcases yp_rng x 2147483647 (by omega) with ⟨k, hk, rfl⟩ | h | h
  · by_cases h2 : k < yp_qf (yp_sQ A)
    · refine .inl ⟨k, h2, rfl, ?_⟩
      simp (disch := omega) only [fX11_needFellow, fX11_isFellow, fX11_isFellow_j19, fX11_isFellow_j20, hA, e1, (show (k < 0) = False by simp only [eq_iff_iff, iff_false]; omega), (show (yp_qf (yp_sQ A) ≤ k) = False by simp only [eq_iff_iff, iff_false]; omega), yp_ck0, yp_ck1, (show (1 = 0) = False by simp only [eq_iff_iff, iff_false]; omega), Nat.reduceLeDiff, Nat.reduceLT, Nat.reduceAdd, Nat.reduceMul, Nat.reduceSub, Nat.reduceEqDiff, Nat.le_refl, Nat.lt_irrefl, Nat.zero_add, Nat.add_zero, yp_LT, yp_nA, yp_nM, yp_leN, yp_ltN, yp_eqN, lt1, yp_sb, yp_sb2, if_false, if_true]
    · refine .inr ⟨.inr (by rw [yp_leN (by omega) (by omega)]; omega), ?_⟩
      simp (disch := omega) only [fX11_needFellow, fX11_isFellow, fX11_isFellow_j19, fX11_isFellow_j20, hA, e1, e, (show (k < 0) = False by simp only [eq_iff_iff, iff_false]; omega), (show (yp_qf (yp_sQ A) ≤ k) = True by simp only [eq_iff_iff, iff_true]; omega), yp_ck0, yp_ck1, Nat.reduceLeDiff, Nat.reduceLT, Nat.reduceAdd, Nat.reduceMul, Nat.reduceSub, Nat.reduceEqDiff, Nat.le_refl, Nat.lt_irrefl, Nat.zero_add, Nat.add_zero, yp_LT, yp_nA, yp_nM, yp_leN, yp_ltN, yp_eqN, lt1, yp_sb, yp_sb2, if_false, if_true]
  · refine .inr ⟨.inl h.1, ?_⟩
    simp (disch := omega) only [fX11_needFellow, fX11_isFellow, fX11_isFellow_j19, fX11_isFellow_j20, hA, e1, e, h.1, yp_ck0, yp_ck1, Nat.reduceLeDiff, Nat.reduceLT, Nat.reduceAdd, Nat.reduceMul, Nat.reduceSub, Nat.reduceEqDiff, Nat.le_refl, Nat.lt_irrefl, Nat.zero_add, Nat.add_zero, yp_LT, yp_nA, yp_nM, yp_leN, yp_ltN, yp_eqN, lt1, yp_sb, yp_sb2, if_false, if_true]
  · exfalso
    have h1 := h.2
    rw [Int32.lt_iff_toInt_lt, yp_tiN (by omega)] at h1
    have := Int32.toInt_lt x
    omega
set_option maxHeartbeats 1000000 in
theorem yp_c_needG (hR : yp_RCc B mm A) (hI : yp_INV A) (x : Int32) : (∃ k, k < yp_qg (yp_sQ A) ∧ x = yp_N k ∧ fX11_needGlass (yp_SH B) B x mm = some (.inl (), mm)) ∨ ((x < yp_N 0 ∨ yp_N (yp_qg (yp_sQ A)) ≤ x) ∧ fX11_needGlass (yp_SH B) B x mm = some (.inr 0, up2 mm B 16 (yp_sC0 A + yp_N 1))) := by
  have hA := yp_clsS B
  have e := hR.2.2.2.2.2.2.1.2.1
  have e1 := hR.1.2.1
  have hq := hI.1.2.1
  rcases yp_rng x 2147483647 (by omega) with ⟨k, hk, rfl⟩ | h | h
  · by_cases h2 : k < yp_qg (yp_sQ A)
    · refine .inl ⟨k, h2, rfl, ?_⟩
      simp (disch := omega) only [fX11_needGlass, fX11_needGlass_j15, hA, e1, (show (k < 0) = False by simp only [eq_iff_iff, iff_false]; omega), (show (k < yp_qg (yp_sQ A)) = True by simp only [eq_iff_iff, iff_true]; omega), Nat.reduceLeDiff, Nat.reduceLT, Nat.reduceAdd, Nat.reduceMul, Nat.reduceSub, Nat.reduceEqDiff, Nat.le_refl, Nat.lt_irrefl, Nat.zero_add, Nat.add_zero, yp_LT, yp_nA, yp_nM, yp_leN, yp_ltN, yp_eqN, lt1, yp_sb, yp_sb2, if_false, if_true]
    · refine .inr ⟨.inr (by rw [yp_leN (by omega) (by omega)]; omega), ?_⟩
      simp (disch := omega) only [fX11_needGlass, fX11_needGlass_j15, hA, e1, e, (show (k < 0) = False by simp only [eq_iff_iff, iff_false]; omega), (show (k < yp_qg (yp_sQ A)) = False by simp only [eq_iff_iff, iff_false]; omega), Nat.reduceLeDiff, Nat.reduceLT, Nat.reduceAdd, Nat.reduceMul, Nat.reduceSub, Nat.reduceEqDiff, Nat.le_refl, Nat.lt_irrefl, Nat.zero_add, Nat.add_zero, yp_LT, yp_nA, yp_nM, yp_leN, yp_ltN, yp_eqN, lt1, yp_sb, yp_sb2, if_false, if_true]
  · refine .inr ⟨.inl h.1, ?_⟩
    simp (disch := omega) only [fX11_needGlass, fX11_needGlass_j15, hA, e1, e, h.1, Nat.reduceLeDiff, Nat.reduceLT, Nat.reduceAdd, Nat.reduceMul, Nat.reduceSub, Nat.reduceEqDiff, Nat.le_refl, Nat.lt_irrefl, Nat.zero_add, Nat.add_zero, yp_LT, yp_nA, yp_nM, yp_leN, yp_ltN, yp_eqN, lt1, yp_sb, yp_sb2, if_false, if_true]
  · exfalso
    have h1 := h.2
    rw [Int32.lt_iff_toInt_lt, yp_tiN (by omega)] at h1
    have := Int32.toInt_lt x
    omega
set_option maxHeartbeats 1000000 in
theorem yp_may1 (B : Nat) (mm : Mem) (c : Int32) (k : Int32) (h0 : mm (B + 517) 0 = yp_N 0) : fX12_may (yp_SH B) (B + 517) (yp_N 1) c k mm = some (yp_N 1, mm) := by
  have hA := yp_mS B
  simp (disch := omega) only [fX12_may, fX12_may_j26, fX12_may_j38, hA, h0, yp_ck1, (show (1 = 0) = False by simp only [eq_iff_iff, iff_false]; omega), Nat.reduceLeDiff, Nat.reduceLT, Nat.reduceAdd, Nat.reduceMul, Nat.reduceSub, Nat.reduceEqDiff, Nat.le_refl, Nat.lt_irrefl, Nat.zero_add, Nat.add_zero, yp_LT, yp_nA, yp_nM, yp_leN, yp_ltN, yp_eqN, lt1, yp_sb, yp_sb2, if_false, if_true]
set_option maxHeartbeats 1000000 in
theorem yp_may0 (B : Nat) (mm : Mem) (c : Int32) (k : Nat) (hk : k < 2) (hc : c ≠ yp_N 0) (h0 : mm (B + 517) 0 = yp_N 0) : fX12_may (yp_SH B) (B + 517) (yp_N 0) c (yp_N k) mm = some (yp_N 0, up2 (up2 mm (B + 517) 0 c) (B + 518) k (mm (B + 518) k + yp_N 1)) := by
  have hA := yp_mS B
  have h1 : rR (yp_SH B) 12 (B + 517) 1 = some (B + 518) := by rw [rR, yp_so517]; rfl
  simp (disch := omega) only [fX12_may, fX12_may_j26, fX12_may_j38, hA, h0, h1, yp_aLN (yp_sa518 B), yp_aSN (yp_sa518 B), yp_up2_n, yp_up2_s, hc, yp_ck0, Nat.reduceLeDiff, Nat.reduceLT, Nat.reduceAdd, Nat.reduceMul, Nat.reduceSub, Nat.reduceEqDiff, Nat.le_refl, Nat.lt_irrefl, Nat.zero_add, Nat.add_zero, yp_LT, yp_nA, yp_nM, yp_leN, yp_ltN, yp_eqN, lt1, yp_sb, yp_sb2, if_false, if_true]
end NEED

set_option maxHeartbeats 1000000 in
theorem yp_bt01 (s : Int32) (k : Nat) : yp_bt s k = yp_N 0 ∨ yp_bt s k = yp_N 1 := by
  unfold yp_bt
  generalize s >>> (yp_N k &&& yp_N 31) = x
  have h : (x &&& yp_N 1).toBitVec = (BitVec.ofBool (x.toBitVec.getLsbD 0)).setWidth 32 := by
    rw [Int32.toBitVec_and]
    exact BitVec.and_one_eq_setWidth_ofBool_getLsbD
  cases hb : x.toBitVec.getLsbD 0
  · left
    apply Int32.toBitVec_inj.mp
    rw [h, hb]
    rfl
  · right
    apply Int32.toBitVec_inj.mp
    rw [h, hb]
    rfl
def yp_FTk (H : Nat → Int32) (f c : Nat) (bend much : Int32) : Nat → Int32 := fun j => if j = 0 then yp_N c else if j = 1 then much else if j = 2 then bend else if j = 3 then yp_W H f else if j = 4 then H (126 + (f * 7 + c)) else if j = 5 then H (168 + f) else if j = 6 then H 174 else yp_N f
def yp_TV (Q : yp_EnvT) (H : Nat → Int32) (f c g : Nat) (much : Int32) : Int32 := yp_bnd (yp_qw Q) (yp_evS (yp_qt Q) (yp_FTk H f c (yp_qb Q g) much) (yp_qn Q) 0)
set_option maxHeartbeats 1000000 in
theorem yp_optS (B : Nat) : ((rR (yp_SH B) 5 (B + 23) 0 = some (B + 3) ∧ rR (yp_SH B) 5 (B + 23) 1 = some (B + 11) ∧ rR (yp_SH B) 5 (B + 23) 2 = some (B + 24) ∧ rR (yp_SH B) 5 (B + 23) 3 = some (B + 25) ∧ rR (yp_SH B) 5 (B + 23) 4 = some (B + 26)) ∧ isO (yp_SH B) 5 (B + 23) = some () ∧ (rR (yp_SH B) 1 (B + 3) 0 = some (B + 4) ∧ rR (yp_SH B) 1 (B + 3) 1 = some (B + 5) ∧ rR (yp_SH B) 1 (B + 3) 2 = some (B + 6)) ∧ isO (yp_SH B) 1 (B + 3) = some () ∧ isO (yp_SH B) 4 (B + 11) = some () ∧ (∀ mm k, rI (yp_SH B) mm 1 (B + 3) k = some (mm (B + 3) k))) ∧ (∀ mm k, k < 8 → aL (yp_SH B) mm (B + 24) (yp_N k) = some (mm (B + 24) k)) ∧ (∀ mm k v, k < 8 → aS (yp_SH B) mm (B + 24) (yp_N k) v = some (up2 mm (B + 24) k v)) ∧ (∀ mm k, k < 7 → aL (yp_SH B) mm (B + 25) (yp_N k) = some (mm (B + 25) k)) ∧ (∀ mm k v, k < 7 → aS (yp_SH B) mm (B + 25) (yp_N k) v = some (up2 mm (B + 25) k v)) ∧ (∀ mm k, k < 8 → aL (yp_SH B) mm (B + 26) (yp_N k) = some (mm (B + 26) k)) ∧ (∀ mm k v, k < 8 → aS (yp_SH B) mm (B + 26) (yp_N k) v = some (up2 mm (B + 26) k v)) ∧ (∀ mm k, k < 8 → aL (yp_SH B) mm (B + 5) (yp_N k) = some (mm (B + 5) k)) ∧ (∀ mm k, k < 8 → aL (yp_SH B) mm (B + 6) (yp_N k) = some (mm (B + 6) k)) := by
  refine ⟨⟨⟨?_, ?_, ?_, ?_, ?_⟩, ?_, ⟨?_, ?_, ?_⟩, ?_, ?_, ?_⟩, fun mm k h => yp_aLN (yp_sa24 B) mm k h (by omega), fun mm k v h => yp_aSN (yp_sa24 B) mm k v h (by omega), fun mm k h => yp_aLN (yp_sa25 B) mm k h (by omega), fun mm k v h => yp_aSN (yp_sa25 B) mm k v h (by omega), fun mm k h => yp_aLN (yp_sa26 B) mm k h (by omega), fun mm k v h => yp_aSN (yp_sa26 B) mm k v h (by omega), fun mm k h => yp_aLN (yp_sa5 B) mm k h (by omega), fun mm k h => yp_aLN (yp_sa6 B) mm k h (by omega)⟩
  · rw [rR, yp_so23]; rfl
  · rw [rR, yp_so23]; rfl
  · rw [rR, yp_so23]; rfl
  · rw [rR, yp_so23]; rfl
  · rw [rR, yp_so23]; rfl
  · rw [isO, yp_so23]; rfl
  · rw [rR, yp_so3]; rfl
  · rw [rR, yp_so3]; rfl
  · rw [rR, yp_so3]; rfl
  · rw [isO, yp_so3]; rfl
  · rw [isO, yp_so11]; rfl
  · intro mm k; rw [rI, yp_so3]; rfl
section OPT
variable {B x : Nat} {mm : Mem} {Q : yp_EnvT} {H : Nat → Int32}
def yp_TO (B : Nat) : Nat → Nat → Prop := fun a _ => a = B + 13 ∨ a = B + 24
set_option maxHeartbeats 1000000 in
theorem yp_c_bounded (hC : yp_CLc B mm Q) (hE : yp_EV Q) (v : Int32) : fX5_bounded (yp_SH B) (B + 23) v mm = some (yp_bnd (yp_qw Q) v) := by
  have hA := yp_optS B
  obtain ⟨hE1, hE2, hE3, hE4, hE5, hn, hW, hW2⟩ := hE
  have g3 := hC.2.2.1
  simp (disch := omega) only [fX5_bounded, fX5_bounded_j32, hA, g3, yp_bnd, yp_nS, Nat.reduceLeDiff, Nat.reduceLT, Nat.reduceAdd, Nat.reduceMul, Nat.reduceSub, Nat.reduceEqDiff, Nat.le_refl, Nat.lt_irrefl, Nat.zero_add, Nat.add_zero, yp_LT, yp_nA, yp_nM, yp_leN, yp_ltN, yp_eqN, lt1, yp_sb, yp_sb2, if_false, if_true]
  by_cases h1 : yp_N 0 ≤ v
  · simp only [h1, if_true]
    by_cases h2 : yp_N (yp_qw Q) ≤ v
    · simp only [h2, if_true]
    · simp only [h2, if_false]
  · simp only [h1, if_false]
set_option maxHeartbeats 1000000 in
theorem yp_c_turn (hE : yp_EV Q) (hC : yp_CLc B mm Q) (hS : yp_HS (yp_SH B) x) (hH : yp_HC mm x H) (hx : B + 33 ≤ x) (f c g : Nat) (much : Int32) (hf : f < 6) (hc : c < 7) (hg : g < yp_qg Q) : ∃ mm', fX5_turnOf (yp_SH B) (B + 23) x (yp_N f) (yp_N c) (yp_N g) much mm = some (yp_TV Q H f c g much, mm') ∧ yp_Fr (yp_TO B) mm mm' := by
  have hA := yp_optS B
  have hX := yp_HSx hS
  have hg8 : g < 8 := by have := hE.2.1; omega
  have e1 := hC.2.2.2.1 g hg
  obtain ⟨m1, hm1⟩ : ∃ m, m = up2 (up2 (up2 mm (B + 24) 0 (yp_N c)) (B + 24) 1 much) (B + 24) 2 (yp_qb Q g) := ⟨_, rfl⟩
  have f1 : ∀ a j, a ≠ B + 24 → m1 a j = mm a j := fun a j h => by
    rw [hm1, yp_up2_n _ _ (by omega), yp_up2_n _ _ (by omega), yp_up2_n _ _ (by omega)]
  have hH1 : yp_HC m1 x H := hH.same (fun a j h1 h2 => f1 a j (by omega))
  obtain ⟨m2, hm2⟩ : ∃ m, m = up2 (up2 (up2 (up2 (up2 m1 (B + 24) 3 (yp_W H f)) (B + 24) 4 (H (126 + (f * 7 + c)))) (B + 24) 5 (H (168 + f))) (B + 24) 6 (H 174)) (B + 24) 7 (yp_N f) := ⟨_, rfl⟩
  have f2 : ∀ a j, a ≠ B + 24 → m2 a j = mm a j := fun a j h => by
    rw [hm2, yp_up2_n _ _ (by omega), yp_up2_n _ _ (by omega), yp_up2_n _ _ (by omega), yp_up2_n _ _ (by omega), yp_up2_n _ _ (by omega)]
    exact f1 a j h
  have hC2 : yp_CLc B m2 Q := hC.fr (fun a j h => f2 a j (by omega))
  obtain ⟨m3, h3, h4⟩ := yp_c_value (a := B + 24) (F := yp_FTk H f c (yp_qb Q g) much) hE hC2 (yp_sa24 B) (by omega) (by omega) (fun j hj => by
    have : j = 0 ∨ j = 1 ∨ j = 2 ∨ j = 3 ∨ j = 4 ∨ j = 5 ∨ j = 6 ∨ j = 7 := by omega
    rw [hm2, hm1]
    rcases this with rfl | rfl | rfl | rfl | rfl | rfl | rfl | rfl <;> simp [up2, yp_FTk])
  have hC3 : yp_CLc B m3 Q := hC2.fr (fun a j h => h4 a j (by omega))
  refine ⟨m3, ?_, fun a j h => ?_⟩
  · have r1 : mm (B + 5) g = yp_qb Q g := e1
    have r2 := hH.2.2.2.1 (f * 7 + c) (by omega)
    have r3 := hH.2.2.2.2.1 f hf
    have r4 := hH.2.2.2.2.2
    have r5 := yp_h_all hS hH1 f hf
    simp (disch := omega) only [fX5_turnOf, hA, hX, yp_up2_n, r1, ← hm1, r5, f1, r2, r3, r4, ← hm2, h3, yp_c_bounded hC3 hE, yp_TV, Nat.reduceLeDiff, Nat.reduceLT, Nat.reduceAdd, Nat.reduceMul, Nat.reduceSub, Nat.reduceEqDiff, Nat.le_refl, Nat.lt_irrefl, Nat.zero_add, Nat.add_zero, yp_LT, yp_nA, yp_nM, yp_leN, yp_ltN, yp_eqN, lt1, yp_sb, yp_sb2, if_false, if_true]
  · unfold yp_TO at h
    rw [h4 a j (by omega)]
    exact f2 a j (by omega)
set_option maxHeartbeats 1000000 in
theorem yp_c_parts (hE : yp_EV Q) (hC : yp_CLc B mm Q) (g : Nat) (hg : g < yp_qg Q) : fX1_parts (yp_SH B) (B + 3) (yp_N g) mm = some (if yp_qk Q g = yp_N 0 then yp_N 1 else yp_N 0) := by
  have hA := yp_optS B
  have hg8 : g < 8 := by have := hE.2.1; omega
  have e1 := hC.2.2.2.2.1 g hg
  simp (disch := omega) only [fX1_parts, fX1_parts_j14, hA, e1, yp_ck0, yp_ck1, Nat.reduceLeDiff, Nat.reduceLT, Nat.reduceAdd, Nat.reduceMul, Nat.reduceSub, Nat.reduceEqDiff, Nat.le_refl, Nat.lt_irrefl, Nat.zero_add, Nat.add_zero, yp_LT, yp_nA, yp_nM, yp_leN, yp_ltN, yp_eqN, lt1, yp_sb, yp_sb2, if_false, if_true]
  split <;> rfl
def yp_prP (H : Nat → Int32) (f : Nat) (tb : Nat → Int32) (n : Nat) : Nat → Int32 := fun k =>
  if f * 7 ≤ k ∧ k < f * 7 + n then (if H k ≤ yp_N 0 then H k else yp_N 0)
  else if 42 + f * 7 ≤ k ∧ k < 42 + f * 7 + n then (if H (k - 42) ≤ yp_N 0 then H k else H k + H (k - 42))
  else if 84 + f * 7 ≤ k ∧ k < 84 + f * 7 + n then (if H (k - 84) ≤ yp_N 0 then H k else tb (k - 84 - f * 7))
  else H k
set_option maxHeartbeats 1000000 in
theorem yp_prP0 (H : Nat → Int32) (f : Nat) (tb : Nat → Int32) : yp_prP H f tb 0 = H := by
  funext k
  unfold yp_prP
  rw [if_neg (by omega), if_neg (by omega), if_neg (by omega)]
set_option maxHeartbeats 1000000 in
theorem yp_prP_a (H : Nat → Int32) (f : Nat) (hf : f < 6) (tb : Nat → Int32) (n : Nat) (hn : n < 7) : yp_prP H f tb n (f * 7 + n) = H (f * 7 + n) := by
  unfold yp_prP
  rw [if_neg (by omega), if_neg (by omega), if_neg (by omega)]
set_option maxHeartbeats 1000000 in
theorem yp_prP_b (H : Nat → Int32) (f : Nat) (hf : f < 6) (tb : Nat → Int32) (n : Nat) (hn : n < 7) : yp_prP H f tb n (42 + (f * 7 + n)) = H (42 + (f * 7 + n)) := by
  unfold yp_prP
  rw [if_neg (by omega), if_neg (by omega), if_neg (by omega)]
set_option maxHeartbeats 1000000 in
theorem yp_prP_s1 (H : Nat → Int32) (f : Nat) (hf : f < 6) (tb : Nat → Int32) (n : Nat) (hn : n < 7) (h : H (f * 7 + n) ≤ yp_N 0) : yp_prP H f tb (n + 1) = yp_prP H f tb n := by
  funext k
  unfold yp_prP
  by_cases e1 : k = f * 7 + n
  · subst e1
    rw [if_pos (by omega), if_pos h, if_neg (by omega), if_neg (by omega), if_neg (by omega)]
  · by_cases e2 : k = 42 + (f * 7 + n)
    · subst e2
      rw [if_neg (by omega), if_pos (by omega), show 42 + (f * 7 + n) - 42 = f * 7 + n by omega, if_pos h, if_neg (by omega), if_neg (by omega), if_neg (by omega)]
    · by_cases e3 : k = 84 + (f * 7 + n)
      · subst e3
        rw [if_neg (by omega), if_neg (by omega), if_pos (by omega), show 84 + (f * 7 + n) - 84 = f * 7 + n by omega, if_pos h, if_neg (by omega), if_neg (by omega), if_neg (by omega)]
      · have c1 : (f * 7 ≤ k ∧ k < f * 7 + (n + 1)) ↔ (f * 7 ≤ k ∧ k < f * 7 + n) := by omega
        have c2 : (42 + f * 7 ≤ k ∧ k < 42 + f * 7 + (n + 1)) ↔ (42 + f * 7 ≤ k ∧ k < 42 + f * 7 + n) := by omega
        have c3 : (84 + f * 7 ≤ k ∧ k < 84 + f * 7 + (n + 1)) ↔ (84 + f * 7 ≤ k ∧ k < 84 + f * 7 + n) := by omega
        simp only [c1, c2, c3]
set_option maxHeartbeats 1000000 in
theorem yp_prP_s2 (H : Nat → Int32) (f : Nat) (hf : f < 6) (tb : Nat → Int32) (n : Nat) (hn : n < 7) (h : ¬ H (f * 7 + n) ≤ yp_N 0) : yp_prP H f tb (n + 1) = yp_up1 (yp_up1 (yp_up1 (yp_prP H f tb n) (42 + (f * 7 + n)) (H (42 + (f * 7 + n)) + H (f * 7 + n))) (84 + (f * 7 + n)) (tb n)) (f * 7 + n) (yp_N 0) := by
  funext k
  unfold yp_up1
  by_cases e1 : k = f * 7 + n
  · subst e1
    rw [if_pos rfl]
    unfold yp_prP
    rw [if_pos (by omega), if_neg h]
  · rw [if_neg e1]
    by_cases e3 : k = 84 + (f * 7 + n)
    · subst e3
      rw [if_pos rfl]
      unfold yp_prP
      rw [if_neg (by omega), if_neg (by omega), if_pos (by omega), show 84 + (f * 7 + n) - 84 = f * 7 + n by omega, if_neg h, show f * 7 + n - f * 7 = n by omega]
    · rw [if_neg e3]
      by_cases e2 : k = 42 + (f * 7 + n)
      · subst e2
        rw [if_pos rfl]
        unfold yp_prP
        rw [if_neg (by omega), if_pos (by omega), show 42 + (f * 7 + n) - 42 = f * 7 + n by omega, if_neg h]
      · rw [if_neg e2]
        unfold yp_prP
        have c1 : (f * 7 ≤ k ∧ k < f * 7 + (n + 1)) ↔ (f * 7 ≤ k ∧ k < f * 7 + n) := by omega
        have c2 : (42 + f * 7 ≤ k ∧ k < 42 + f * 7 + (n + 1)) ↔ (42 + f * 7 ≤ k ∧ k < 42 + f * 7 + n) := by omega
        have c3 : (84 + f * 7 ≤ k ∧ k < 84 + f * 7 + (n + 1)) ↔ (84 + f * 7 ≤ k ∧ k < 84 + f * 7 + n) := by omega
        simp only [c1, c2, c3]
def yp_tbH (Q : yp_EnvT) (H : Nat → Int32) (f g : Nat) : Nat → Int32 := fun c => yp_TV Q H f c g (H (f * 7 + c))
def yp_prt (Q : yp_EnvT) (H : Nat → Int32) (f g : Nat) : Nat → Int32 := yp_up1 (yp_prP H f (yp_tbH Q H f g) 7) (168 + f) (H (168 + f) + yp_N 1)
def yp_doesP (Q : yp_EnvT) (H : Nat → Int32) (f g : Nat) : Prop := yp_qk Q g = yp_N 0 ∧ ¬ yp_W H f = yp_N 0
def yp_TP (B x : Nat) : Nat → Nat → Prop := fun a _ => a = B + 13 ∨ a = B + 24 ∨ a = B + 25 ∨ (x ≤ a ∧ a ≤ x + 5)
set_option maxHeartbeats 1000000 in
theorem yp_c_partBy (hE : yp_EV Q) (hC : yp_CLc B mm Q) (hS : yp_HS (yp_SH B) x) (hH : yp_HC mm x H) (hx : B + 33 ≤ x) (f g : Nat) (hf : f < 6) (hg : g < yp_qg Q) : (¬ yp_doesP Q H f g ∧ fX5_partBy (yp_SH B) (B + 23) x (yp_N f) (yp_N g) mm = some (yp_N 0, mm)) ∨ (yp_doesP Q H f g ∧ ∃ mm', fX5_partBy (yp_SH B) (B + 23) x (yp_N f) (yp_N g) mm = some (yp_N 1, mm') ∧ yp_HC mm' x (yp_prt Q H f g) ∧ yp_Fr (yp_TP B x) mm mm') := by
  have hA := yp_optS B
  have hX := yp_HSx hS
  have e1 := yp_c_parts hE hC g hg
  have e2 := yp_h_all hS hH f hf
  by_cases h1 : yp_qk Q g = yp_N 0
  · by_cases h2 : yp_W H f = yp_N 0
    · refine .inl ⟨fun h => h.2 h2, ?_⟩
      simp (disch := omega) only [fX5_partBy, fX5_partBy_j19, hA, hX, e1, e2, h1, h2, Nat.reduceLeDiff, Nat.reduceLT, Nat.reduceAdd, Nat.reduceMul, Nat.reduceSub, Nat.reduceEqDiff, Nat.le_refl, Nat.lt_irrefl, Nat.zero_add, Nat.add_zero, yp_LT, yp_nA, yp_nM, yp_leN, yp_ltN, yp_eqN, lt1, yp_sb, yp_sb2, if_false, if_true]
    · refine .inr ⟨⟨h1, h2⟩, ?_⟩
      obtain ⟨m1, k1, k2, k3⟩ := yp_lpI (step := fun st : Int32 × Mem => fX5_partBy_b30 (yp_SH B) (B + 23) x (yp_N f) (yp_N g) (yp_N (f * 7)) st.1 st.2) (fun k st => ∃ m, st = (yp_N k, m) ∧ (∀ j, j < k → m (B + 25) j = yp_tbH Q H f g j) ∧ yp_Fr (fun a _ => a = B + 13 ∨ a = B + 24 ∨ a = B + 25) mm m) (fun m => (∀ j, j < 7 → m (B + 25) j = yp_tbH Q H f g j) ∧ yp_Fr (fun a _ => a = B + 13 ∨ a = B + 24 ∨ a = B + 25) mm m) 7 (fun k st hk hI => by
        obtain ⟨m, rfl, hs, hF⟩ := hI
        by_cases hk7 : k = 7
        · subst hk7
          exact .inr ⟨m, by simp (disch := omega) only [fX5_partBy_b30, Nat.reduceLeDiff, Nat.reduceLT, Nat.reduceAdd, Nat.reduceMul, Nat.reduceSub, Nat.reduceEqDiff, Nat.le_refl, Nat.lt_irrefl, Nat.zero_add, Nat.add_zero, yp_LT, yp_nA, yp_nM, yp_leN, yp_ltN, yp_eqN, lt1, yp_sb, yp_sb2, if_false, if_true], hs, hF⟩
        · have hHm : yp_HC m x H := hH.same (fun a j h1 h2 => hF a j (by omega))
          have hCm : yp_CLc B m Q := hC.fr (fun a j h => hF a j (by omega))
          obtain ⟨m', t1, t2⟩ := yp_c_turn hE hCm hS hHm hx f k g (H (f * 7 + k)) hf (by omega) hg
          have r1 := hHm.1 (f * 7 + k) (by omega)
          refine .inl ⟨by omega, (yp_N (k + 1), up2 m' (B + 25) k (yp_tbH Q H f g k)), ?_, _, rfl, fun j hj => ?_, ?_⟩
          · simp (disch := omega) only [fX5_partBy_b30, hA, hX, r1, t1, (show (7 ≤ k) = False by simp only [eq_iff_iff, iff_false]; omega), yp_tbH, Nat.reduceLeDiff, Nat.reduceLT, Nat.reduceAdd, Nat.reduceMul, Nat.reduceSub, Nat.reduceEqDiff, Nat.le_refl, Nat.lt_irrefl, Nat.zero_add, Nat.add_zero, yp_LT, yp_nA, yp_nM, yp_leN, yp_ltN, yp_eqN, lt1, yp_sb, yp_sb2, if_false, if_true]
          · by_cases e : j = k
            · subst e; exact yp_up2_s _ _ _ _
            · rw [yp_up2_n _ _ (by omega), t2 _ _ (by unfold yp_TO; omega)]
              exact hs j (by omega)
          · refine yp_Fr.up (hF.tr (t2.mono (fun a j h => ?_))) (.inr (.inr rfl))
            unfold yp_TO at h
            omega) (show 7 < FU by rw [yp_FUe]; omega) (s0 := (yp_N 0, mm)) ⟨mm, rfl, fun j hj => absurd hj (Nat.not_lt_zero j), yp_Fr.rf⟩
      have hH1 : yp_HC m1 x H := hH.same (fun a j h1 h2 => k3 a j (by omega))
      obtain ⟨m2, l1, l2, l3⟩ := yp_lpI (step := fun st : Int32 × Mem => fX5_partBy_b72 (yp_SH B) (B + 23) x (yp_N f) (yp_N (f * 7)) st.1 st.2) (fun k st => ∃ m, st = (yp_N k, m) ∧ yp_HC m x (yp_prP H f (yp_tbH Q H f g) k) ∧ yp_Fr (yp_IH x) m1 m) (fun m => yp_HC m x (yp_prP H f (yp_tbH Q H f g) 7) ∧ yp_Fr (yp_IH x) m1 m) 7 (fun k st hk hI => by
        obtain ⟨m, rfl, hs, hF⟩ := hI
        by_cases hk7 : k = 7
        · subst hk7
          exact .inr ⟨m, by simp (disch := omega) only [fX5_partBy_b72, Nat.reduceLeDiff, Nat.reduceLT, Nat.reduceAdd, Nat.reduceMul, Nat.reduceSub, Nat.reduceEqDiff, Nat.le_refl, Nat.lt_irrefl, Nat.zero_add, Nat.add_zero, yp_LT, yp_nA, yp_nM, yp_leN, yp_ltN, yp_eqN, lt1, yp_sb, yp_sb2, if_false, if_true], hs, hF⟩
        · have r1 := hs.1 (f * 7 + k) (by omega)
          have r2 := hs.2.1 (f * 7 + k) (by omega)
          have r3 : m (B + 25) k = yp_tbH Q H f g k := (hF _ _ (by unfold yp_IH; omega)).trans (k2 k (by omega))
          rw [yp_prP_a H f hf _ k (by omega)] at r1
          rw [yp_prP_b H f hf _ k (by omega)] at r2
          by_cases hc : H (f * 7 + k) ≤ yp_N 0
          · refine .inl ⟨by omega, (yp_N (k + 1), m), ?_, m, rfl, ?_, hF⟩
            · simp (disch := omega) only [fX5_partBy_b72, fX5_partBy_j135, hX, r1, (show (7 ≤ k) = False by simp only [eq_iff_iff, iff_false]; omega), hc, Nat.reduceLeDiff, Nat.reduceLT, Nat.reduceAdd, Nat.reduceMul, Nat.reduceSub, Nat.reduceEqDiff, Nat.le_refl, Nat.lt_irrefl, Nat.zero_add, Nat.add_zero, yp_LT, yp_nA, yp_nM, yp_leN, yp_ltN, yp_eqN, lt1, yp_sb, yp_sb2, if_false, if_true]
            · rw [yp_prP_s1 H f hf _ k (by omega) hc]
              exact hs
          · refine .inl ⟨by omega, (yp_N (k + 1), up2 (up2 (up2 m (x + 2) (f * 7 + k) (H (42 + (f * 7 + k)) + H (f * 7 + k))) (x + 3) (f * 7 + k) (yp_tbH Q H f g k)) (x + 1) (f * 7 + k) (yp_N 0)), ?_, _, rfl, ?_, ?_⟩
            · simp (disch := omega) only [fX5_partBy_b72, fX5_partBy_j135, hA, hX, r1, r2, (show (7 ≤ k) = False by simp only [eq_iff_iff, iff_false]; omega), hc, yp_up2_n, r3, Nat.reduceLeDiff, Nat.reduceLT, Nat.reduceAdd, Nat.reduceMul, Nat.reduceSub, Nat.reduceEqDiff, Nat.le_refl, Nat.lt_irrefl, Nat.zero_add, Nat.add_zero, yp_LT, yp_nA, yp_nM, yp_leN, yp_ltN, yp_eqN, lt1, yp_sb, yp_sb2, if_false, if_true]
            · rw [yp_prP_s2 H f hf _ k (by omega) hc]
              exact ((hs.l (by omega) _).a (by omega) _).w (by omega) _
            · exact ((hF.up ⟨by omega, by omega⟩).up ⟨by omega, by omega⟩).up ⟨by omega, by omega⟩) (show 7 < FU by rw [yp_FUe]; omega) (s0 := (yp_N 0, m1)) ⟨m1, rfl, by rw [yp_prP0]; exact hH1, yp_Fr.rf⟩
      have r9 := l2.2.2.2.2.1 f hf
      have e9 : yp_prP H f (yp_tbH Q H f g) 7 (168 + f) = H (168 + f) := by
        unfold yp_prP
        rw [if_neg (by omega), if_neg (by omega), if_neg (by omega)]
      rw [e9] at r9
      refine ⟨up2 m2 (x + 5) f (H (168 + f) + yp_N 1), ?_, l2.u hf _, ?_⟩
      · simp (disch := omega) only [fX5_partBy, hA, hX, e1, e2, h1, h2, k1, fX5_partBy_j69, l1, fX5_partBy_j141, r9, Nat.reduceLeDiff, Nat.reduceLT, Nat.reduceAdd, Nat.reduceMul, Nat.reduceSub, Nat.reduceEqDiff, Nat.le_refl, Nat.lt_irrefl, Nat.zero_add, Nat.add_zero, yp_LT, yp_nA, yp_nM, yp_leN, yp_ltN, yp_eqN, lt1, yp_sb, yp_sb2, if_false, if_true]
      · refine yp_Fr.up ((k3.mono (fun a j h => ?_)).tr (l3.mono (fun a j h => ?_))) ?_
        · unfold yp_TP; omega
        · unfold yp_IH at h; unfold yp_TP; omega
        · unfold yp_TP; omega
  · refine .inl ⟨fun h => h1 h.1, ?_⟩
    simp (disch := omega) only [fX5_partBy, fX5_partBy_j19, hA, hX, e1, h1, Nat.reduceLeDiff, Nat.reduceLT, Nat.reduceAdd, Nat.reduceMul, Nat.reduceSub, Nat.reduceEqDiff, Nat.le_refl, Nat.lt_irrefl, Nat.zero_add, Nat.add_zero, yp_LT, yp_nA, yp_nM, yp_leN, yp_ltN, yp_eqN, lt1, yp_sb, yp_sb2, if_false, if_true]
def yp_jbG (Q : yp_EnvT) (H : Nat → Int32) (f g k : Nat) (a : Int32) : Int32 := if H (42 + (f * 7 + k)) ≤ yp_N 0 then a else if H (84 + (f * 7 + k)) = yp_TV Q H f k g (H (42 + (f * 7 + k))) then a ||| yp_b1 k else a
def yp_jb (Q : yp_EnvT) (H : Nat → Int32) (f g : Nat) : Int32 := if yp_qk Q g = yp_N 0 then yp_N 0 else yp_fo (yp_jbG Q H f g) 7 (yp_N 0)
set_option maxHeartbeats 1000000 in
theorem yp_c_joined (hE : yp_EV Q) (hC : yp_CLc B mm Q) (hS : yp_HS (yp_SH B) x) (hH : yp_HC mm x H) (hx : B + 33 ≤ x) (f g : Nat) (hf : f < 6) (hg : g < yp_qg Q) : ∃ mm', fX5_joinedBits (yp_SH B) (B + 23) x (yp_N f) (yp_N g) mm = some (yp_jb Q H f g, mm') ∧ yp_Fr (yp_TO B) mm mm' := by
  have hA := yp_optS B
  have hX := yp_HSx hS
  simp (disch := omega) only [fX5_joinedBits, Nat.reduceLeDiff, Nat.reduceLT, Nat.reduceAdd, Nat.reduceMul, Nat.reduceSub, Nat.reduceEqDiff, Nat.le_refl, Nat.lt_irrefl, Nat.zero_add, Nat.add_zero, yp_LT, yp_nA, yp_nM, yp_leN, yp_ltN, yp_eqN, lt1, yp_sb, yp_sb2, if_false, if_true]
  obtain ⟨r, k1, k2, k3⟩ := yp_lpI (step := fun st : Int32 × Int32 × Mem => fX5_joinedBits_b6 (yp_SH B) (B + 23) x (yp_N f) (yp_N g) st.1 st.2.1 st.2.2) (fun k st => ∃ m, st = (if yp_qk Q g = yp_N 0 then yp_N 0 else yp_fo (yp_jbG Q H f g) k (yp_N 0), yp_N k, m) ∧ yp_Fr (yp_TO B) mm m) (fun r => r.1 = yp_jb Q H f g ∧ yp_Fr (yp_TO B) mm r.2) 7 (fun k st hk hI => by
    obtain ⟨m, rfl, hF⟩ := hI
    by_cases hk7 : k = 7
    · subst hk7
      exact .inr ⟨(_, m), by simp (disch := omega) only [fX5_joinedBits_b6, Nat.reduceLeDiff, Nat.reduceLT, Nat.reduceAdd, Nat.reduceMul, Nat.reduceSub, Nat.reduceEqDiff, Nat.le_refl, Nat.lt_irrefl, Nat.zero_add, Nat.add_zero, yp_LT, yp_nA, yp_nM, yp_leN, yp_ltN, yp_eqN, lt1, yp_sb, yp_sb2, if_false, if_true]; rfl, rfl, hF⟩
    · have hHm : yp_HC m x H := hH.same (fun a j h1 h2 => hF a j (by unfold yp_TO; omega))
      have hCm : yp_CLc B m Q := hC.fr (fun a j h => hF a j (by unfold yp_TO; omega))
      have e1 := yp_c_parts hE hCm g hg
      by_cases h1 : yp_qk Q g = yp_N 0
      · refine .inr ⟨(yp_N 0, m), ?_, by unfold yp_jb; rw [if_pos h1], hF⟩
        simp (disch := omega) only [fX5_joinedBits_b6, hA, e1, h1, (show (7 ≤ k) = False by simp only [eq_iff_iff, iff_false]; omega), Nat.reduceLeDiff, Nat.reduceLT, Nat.reduceAdd, Nat.reduceMul, Nat.reduceSub, Nat.reduceEqDiff, Nat.le_refl, Nat.lt_irrefl, Nat.zero_add, Nat.add_zero, yp_LT, yp_nA, yp_nM, yp_leN, yp_ltN, yp_eqN, lt1, yp_sb, yp_sb2, if_false, if_true]
      · have r1 := hHm.2.1 (f * 7 + k) (by omega)
        have r2 := hHm.2.2.1 (f * 7 + k) (by omega)
        by_cases h2 : H (42 + (f * 7 + k)) ≤ yp_N 0
        · refine .inl ⟨by omega, (if yp_qk Q g = yp_N 0 then yp_N 0 else yp_fo (yp_jbG Q H f g) (k + 1) (yp_N 0), yp_N (k + 1), m), ?_, m, rfl, hF⟩
          have e3 : yp_fo (yp_jbG Q H f g) (k + 1) (yp_N 0) = yp_fo (yp_jbG Q H f g) k (yp_N 0) := by
            show yp_jbG Q H f g k _ = _
            unfold yp_jbG
            rw [if_pos h2]
          rw [e3]
          simp (disch := omega) only [fX5_joinedBits_b6, fX5_joinedBits_j77, hA, hX, e1, h1, r1, h2, (show (7 ≤ k) = False by simp only [eq_iff_iff, iff_false]; omega), Nat.reduceLeDiff, Nat.reduceLT, Nat.reduceAdd, Nat.reduceMul, Nat.reduceSub, Nat.reduceEqDiff, Nat.le_refl, Nat.lt_irrefl, Nat.zero_add, Nat.add_zero, yp_LT, yp_nA, yp_nM, yp_leN, yp_ltN, yp_eqN, lt1, yp_sb, yp_sb2, if_false, if_true]
        · obtain ⟨m', t1, t2⟩ := yp_c_turn hE hCm hS hHm hx f k g (H (42 + (f * 7 + k))) hf (by omega) hg
          refine .inl ⟨by omega, (if yp_qk Q g = yp_N 0 then yp_N 0 else yp_fo (yp_jbG Q H f g) (k + 1) (yp_N 0), yp_N (k + 1), m'), ?_, m', rfl, hF.tr t2⟩
          have e3 : yp_fo (yp_jbG Q H f g) (k + 1) (yp_N 0) = if H (84 + (f * 7 + k)) = yp_TV Q H f k g (H (42 + (f * 7 + k))) then yp_fo (yp_jbG Q H f g) k (yp_N 0) ||| yp_b1 k else yp_fo (yp_jbG Q H f g) k (yp_N 0) := by
            show yp_jbG Q H f g k _ = _
            generalize yp_fo (yp_jbG Q H f g) k (yp_N 0) = z
            unfold yp_jbG
            rw [if_neg h2]
          rw [e3]
          simp (disch := omega) only [fX5_joinedBits_b6, fX5_joinedBits_j77, hA, hX, e1, h1, r1, r2, h2, (show (7 ≤ k) = False by simp only [eq_iff_iff, iff_false]; omega), t1, yp_b1, Nat.reduceLeDiff, Nat.reduceLT, Nat.reduceAdd, Nat.reduceMul, Nat.reduceSub, Nat.reduceEqDiff, Nat.le_refl, Nat.lt_irrefl, Nat.zero_add, Nat.add_zero, yp_LT, yp_nA, yp_nM, yp_leN, yp_ltN, yp_eqN, lt1, yp_sb, yp_sb2, if_false, if_true]
          split <;> rfl) (show 7 < FU by rw [yp_FUe]; omega) (s0 := (yp_N 0, yp_N 0, mm)) ⟨mm, by unfold yp_fo; split <;> rfl, yp_Fr.rf⟩
  rw [k1]
  refine ⟨r.2, ?_, k3⟩
  simp only [yp_sb, fX5_joinedBits_j83, k2]
def yp_jnP (H : Nat → Int32) (f : Nat) (s : Int32) (n : Nat) : Nat → Int32 := fun k =>
  if f * 7 ≤ k ∧ k < f * 7 + n then (if yp_bt s (k - f * 7) = yp_N 1 then H k + H (42 + k) else H k)
  else if 42 + f * 7 ≤ k ∧ k < 42 + f * 7 + n then (if yp_bt s (k - 42 - f * 7) = yp_N 1 then yp_N 0 else H k)
  else H k
set_option maxHeartbeats 1000000 in
theorem yp_jnP0 (H : Nat → Int32) (f : Nat) (s : Int32) : yp_jnP H f s 0 = H := by
  funext k
  unfold yp_jnP
  rw [if_neg (by omega), if_neg (by omega)]
set_option maxHeartbeats 1000000 in
theorem yp_jnP_a (H : Nat → Int32) (f : Nat) (hf : f < 6) (s : Int32) (n : Nat) (hn : n < 7) : yp_jnP H f s n (f * 7 + n) = H (f * 7 + n) := by
  unfold yp_jnP
  rw [if_neg (by omega), if_neg (by omega)]
set_option maxHeartbeats 1000000 in
theorem yp_jnP_b (H : Nat → Int32) (f : Nat) (hf : f < 6) (s : Int32) (n : Nat) (hn : n < 7) : yp_jnP H f s n (42 + (f * 7 + n)) = H (42 + (f * 7 + n)) := by
  unfold yp_jnP
  rw [if_neg (by omega), if_neg (by omega)]
set_option maxHeartbeats 1000000 in
theorem yp_jnP_s1 (H : Nat → Int32) (f : Nat) (hf : f < 6) (s : Int32) (n : Nat) (hn : n < 7) (h : ¬ yp_bt s n = yp_N 1) : yp_jnP H f s (n + 1) = yp_jnP H f s n := by
  funext k
  unfold yp_jnP
  by_cases e1 : k = f * 7 + n
  · subst e1
    rw [if_pos (by omega), show f * 7 + n - f * 7 = n by omega, if_neg h, if_neg (by omega), if_neg (by omega)]
  · by_cases e2 : k = 42 + (f * 7 + n)
    · subst e2
      rw [if_neg (by omega), if_pos (by omega), show 42 + (f * 7 + n) - 42 - f * 7 = n by omega, if_neg h, if_neg (by omega), if_neg (by omega)]
    · have c1 : (f * 7 ≤ k ∧ k < f * 7 + (n + 1)) ↔ (f * 7 ≤ k ∧ k < f * 7 + n) := by omega
      have c2 : (42 + f * 7 ≤ k ∧ k < 42 + f * 7 + (n + 1)) ↔ (42 + f * 7 ≤ k ∧ k < 42 + f * 7 + n) := by omega
      simp only [c1, c2]
set_option maxHeartbeats 1000000 in
theorem yp_jnP_s2 (H : Nat → Int32) (f : Nat) (hf : f < 6) (s : Int32) (n : Nat) (hn : n < 7) (h : yp_bt s n = yp_N 1) : yp_jnP H f s (n + 1) = yp_up1 (yp_up1 (yp_jnP H f s n) (f * 7 + n) (H (f * 7 + n) + H (42 + (f * 7 + n)))) (42 + (f * 7 + n)) (yp_N 0) := by
  funext k
  unfold yp_up1
  by_cases e2 : k = 42 + (f * 7 + n)
  · subst e2
    rw [if_pos rfl]
    unfold yp_jnP
    rw [if_neg (by omega), if_pos (by omega), show 42 + (f * 7 + n) - 42 - f * 7 = n by omega, if_pos h]
  · rw [if_neg e2]
    by_cases e1 : k = f * 7 + n
    · subst e1
      rw [if_pos rfl]
      unfold yp_jnP
      rw [if_pos (by omega), show f * 7 + n - f * 7 = n by omega, if_pos h]
    · rw [if_neg e1]
      unfold yp_jnP
      have c1 : (f * 7 ≤ k ∧ k < f * 7 + (n + 1)) ↔ (f * 7 ≤ k ∧ k < f * 7 + n) := by omega
      have c2 : (42 + f * 7 ≤ k ∧ k < 42 + f * 7 + (n + 1)) ↔ (42 + f * 7 ≤ k ∧ k < 42 + f * 7 + n) := by omega
      simp only [c1, c2]
def yp_jnd (Q : yp_EnvT) (H : Nat → Int32) (f g : Nat) : Nat → Int32 := yp_jnP H f (yp_jb Q H f g) 7
set_option maxHeartbeats 1000000 in
theorem yp_c_joinBy (hE : yp_EV Q) (hC : yp_CLc B mm Q) (hS : yp_HS (yp_SH B) x) (hH : yp_HC mm x H) (hx : B + 33 ≤ x) (f g : Nat) (hf : f < 6) (hg : g < yp_qg Q) : ∃ mm', fX5_joinBy (yp_SH B) (B + 23) x (yp_N f) (yp_N g) mm = some (if yp_jb Q H f g = yp_N 0 then yp_N 0 else yp_N 1, mm') ∧ yp_HC mm' x (yp_jnd Q H f g) ∧ yp_Fr (yp_TP B x) mm mm' := by
  have hA := yp_optS B
  have hX := yp_HSx hS
  obtain ⟨m1, k1, k2⟩ := yp_c_joined hE hC hS hH hx f g hf hg
  have hH1 : yp_HC m1 x H := hH.same (fun a j h1 h2 => k2 a j (by unfold yp_TO; omega))
  obtain ⟨m2, l1, l2, l3⟩ := yp_lpI (step := fun st : Int32 × Mem => fX5_joinBy_b12 (yp_SH B) x (yp_N f) (yp_jb Q H f g) st.1 st.2) (fun k st => ∃ m, st = (yp_N k, m) ∧ yp_HC m x (yp_jnP H f (yp_jb Q H f g) k) ∧ yp_Fr (yp_IH x) m1 m) (fun m => yp_HC m x (yp_jnP H f (yp_jb Q H f g) 7) ∧ yp_Fr (yp_IH x) m1 m) 7 (fun k st hk hI => by
    obtain ⟨m, rfl, hs, hF⟩ := hI
    by_cases hk7 : k = 7
    · subst hk7
      exact .inr ⟨m, by simp (disch := omega) only [fX5_joinBy_b12, Nat.reduceLeDiff, Nat.reduceLT, Nat.reduceAdd, Nat.reduceMul, Nat.reduceSub, Nat.reduceEqDiff, Nat.le_refl, Nat.lt_irrefl, Nat.zero_add, Nat.add_zero, yp_LT, yp_nA, yp_nM, yp_leN, yp_ltN, yp_eqN, lt1, yp_sb, yp_sb2, if_false, if_true], hs, hF⟩
    · have r1 := hs.1 (f * 7 + k) (by omega)
      have r2 := hs.2.1 (f * 7 + k) (by omega)
      rw [yp_jnP_a H f hf _ k (by omega)] at r1
      rw [yp_jnP_b H f hf _ k (by omega)] at r2
      by_cases hc : yp_bt (yp_jb Q H f g) k = yp_N 1
      · refine .inl ⟨by omega, (yp_N (k + 1), up2 (up2 m (x + 1) (f * 7 + k) (H (f * 7 + k) + H (42 + (f * 7 + k)))) (x + 2) (f * 7 + k) (yp_N 0)), ?_, _, rfl, ?_, ?_⟩
        · have hc' := hc
          unfold yp_bt at hc'
          simp (disch := omega) only [fX5_joinBy_b12, fX5_joinBy_j64, hX, r1, r2, (show (7 ≤ k) = False by simp only [eq_iff_iff, iff_false]; omega), hc', Nat.reduceLeDiff, Nat.reduceLT, Nat.reduceAdd, Nat.reduceMul, Nat.reduceSub, Nat.reduceEqDiff, Nat.le_refl, Nat.lt_irrefl, Nat.zero_add, Nat.add_zero, yp_LT, yp_nA, yp_nM, yp_leN, yp_ltN, yp_eqN, lt1, yp_sb, yp_sb2, if_false, if_true]
        · rw [yp_jnP_s2 H f hf _ k (by omega) hc]
          exact (hs.w (by omega) _).l (by omega) _
        · exact (hF.up ⟨by omega, by omega⟩).up ⟨by omega, by omega⟩
      · refine .inl ⟨by omega, (yp_N (k + 1), m), ?_, m, rfl, ?_, hF⟩
        · have hc' := hc
          unfold yp_bt at hc'
          simp (disch := omega) only [fX5_joinBy_b12, fX5_joinBy_j64, hX, r1, r2, (show (7 ≤ k) = False by simp only [eq_iff_iff, iff_false]; omega), hc', Nat.reduceLeDiff, Nat.reduceLT, Nat.reduceAdd, Nat.reduceMul, Nat.reduceSub, Nat.reduceEqDiff, Nat.le_refl, Nat.lt_irrefl, Nat.zero_add, Nat.add_zero, yp_LT, yp_nA, yp_nM, yp_leN, yp_ltN, yp_eqN, lt1, yp_sb, yp_sb2, if_false, if_true]
        · rw [yp_jnP_s1 H f hf _ k (by omega) hc]
          exact hs) (show 7 < FU by rw [yp_FUe]; omega) (s0 := (yp_N 0, m1)) ⟨m1, rfl, by rw [yp_jnP0]; exact hH1, yp_Fr.rf⟩
  refine ⟨m2, ?_, l2, ?_⟩
  · simp (disch := omega) only [fX5_joinBy, hA, k1, l1, fX5_joinBy_j70, fX5_joinBy_j80, yp_ck0, yp_ck1, Nat.reduceLeDiff, Nat.reduceLT, Nat.reduceAdd, Nat.reduceMul, Nat.reduceSub, Nat.reduceEqDiff, Nat.le_refl, Nat.lt_irrefl, Nat.zero_add, Nat.add_zero, yp_LT, yp_nA, yp_nM, yp_leN, yp_ltN, yp_eqN, lt1, yp_sb, yp_sb2, if_false, if_true]
    split <;> rfl
  · refine (k2.mono (fun a j h => ?_)).tr (l3.mono (fun a j h => ?_))
    · unfold yp_TO at h; unfold yp_TP; omega
    · unfold yp_IH at h; unfold yp_TP; omega
end OPT

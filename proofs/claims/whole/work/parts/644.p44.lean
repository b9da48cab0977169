set_option maxHeartbeats 1000000 in
theorem yp_lpP {T Y : Type} {ps : T → Option (T ⊕ Y)} (I : T → Prop) (Q : Y → Prop) (μ : T → Nat) (h : ∀ z, I z → (∃ z', ps z = some (.inl z') ∧ I z' ∧ μ z' < μ z) ∨ (∃ y, ps z = some (.inr y) ∧ Q y)) (k : Nat) (z : T) (h1 : μ z < k) (h2 : I z) : ∃ y, loopN ps k z = some y ∧ Q y := by
  obtain ⟨x, y, e1, e2, e3⟩ := yp_lpSim (step := ps) (ps := ps) (fun s z => s = z ∧ I z) (fun x y => x = y ∧ Q y) μ (fun s z hR => by
    obtain ⟨rfl, hI⟩ := hR
    rcases h s hI with ⟨z', a, b, c⟩ | ⟨y, a, b⟩
    · exact .inl ⟨z', z', a, a, ⟨rfl, b⟩, c⟩
    · exact .inr ⟨y, y, a, a, rfl, b⟩) k z z h1 ⟨rfl, h2⟩
  exact ⟨y, e2, e3.2⟩
abbrev yp_LwT : Type := Nat × Nat × (Nat → Nat × Nat)
abbrev yp_LwR : Type := (Nat × Nat) × yp_LwT
def yp_lay (x : Nat × Nat) (z : yp_LwT) : yp_LwT := (z.1, z.2.1 + 1, fun i => if i = z.2.1 then x else z.2.2 i)
set_option maxHeartbeats 1000000 in
theorem yp_lay_tk {x : Nat × Nat} {z : yp_LwT} {i : Nat} (h : i ≠ z.2.1) : (yp_lay x z).2.2 i = z.2.2 i := if_neg h
set_option maxHeartbeats 1000000 in
theorem yp_lay_tx {x : Nat × Nat} {z : yp_LwT} : (yp_lay x z).2.2 z.2.1 = x := if_pos rfl
set_option maxHeartbeats 1000000 in
theorem yp_dep_congr {tk tk' : Nat → Nat × Nat} {n : Nat} (h : ∀ k, k < n → tk k = tk' k) : yp_dep tk n = yp_dep tk' n := yp_fo_congr (fun k d hk => by unfold yp_depG; rw [h k hk])
def yp_tokOK (tk : Nat → Nat × Nat) (k : Nat) : Prop := ((tk k).1 = 0 ∧ (tk k).2 < 1000) ∨ ((tk k).1 = 1 ∧ (tk k).2 < 8) ∨ (2 ≤ (tk k).1 ∧ (tk k).1 ≤ 8 ∧ (tk k).2 = 0 ∧ 2 ≤ yp_dep tk k)
set_option maxHeartbeats 1000000 in
theorem yp_tokOK_c {tk tk' : Nat → Nat × Nat} {k : Nat} (h : ∀ i, i ≤ k → tk i = tk' i) (h2 : yp_tokOK tk k) : yp_tokOK tk' k := by
  unfold yp_tokOK at h2 ⊢
  rw [← h k (Nat.le_refl k), ← yp_dep_congr (fun i hi => h i (Nat.le_of_lt hi))]
  exact h2
def yp_PQ (n : Nat) (z z' : yp_LwT) (e : Nat) : Prop := z.1 ≤ z'.1 ∧ z'.1 ≤ n ∧ z.2.1 ≤ z'.2.1 ∧ z'.2.1 + z.1 ≤ z'.1 + z.2.1 ∧ (∀ k, k < z.2.1 → z'.2.2 k = z.2.2 k) ∧ yp_dep z'.2.2 z'.2.1 = yp_dep z.2.2 z.2.1 + e ∧ ∀ k, z.2.1 ≤ k → k < z'.2.1 → yp_tokOK z'.2.2 k
set_option maxHeartbeats 1000000 in
theorem yp_PQ.st {n q : Nat} {z z' : yp_LwT} {e : Nat} (h : yp_PQ n (q, z.2) z' e) (hq : z.1 ≤ q) : yp_PQ n z z' e := by
  obtain ⟨h1, h2, h3, h4, h5, h6, h7⟩ := h
  have h1 : q ≤ z'.1 := h1
  have h4 : z'.2.1 + q ≤ z'.1 + z.2.1 := h4
  exact ⟨by omega, h2, h3, by omega, h5, h6, h7⟩
set_option maxHeartbeats 1000000 in
theorem yp_PQ.en {n q : Nat} {z z' : yp_LwT} {e : Nat} (h : yp_PQ n z z' e) (hq : z'.1 ≤ q) (hn : q ≤ n) : yp_PQ n z (q, z'.2) e := by
  obtain ⟨h1, h2, h3, h4, h5, h6, h7⟩ := h
  exact ⟨by show z.1 ≤ q; omega, hn, h3, by show z'.2.1 + z.1 ≤ q + z.2.1; omega, h5, h6, h7⟩
set_option maxHeartbeats 1000000 in
theorem yp_PQ.val {n q : Nat} {z : yp_LwT} {x : Nat × Nat} (hq : z.1 + 1 ≤ q) (hn : q ≤ n) (hx : (x.1 = 0 ∧ x.2 < 1000) ∨ (x.1 = 1 ∧ x.2 < 8)) : yp_PQ n z (yp_lay x (q, z.2)) 1 := by
  have e1 : (yp_lay x (q, z.2)).2.2 z.2.1 = x := if_pos rfl
  have e2 : ∀ k, k < z.2.1 → (yp_lay x (q, z.2)).2.2 k = z.2.2 k := fun k hk => if_neg (show k ≠ z.2.1 by omega)
  refine ⟨by show z.1 ≤ q; omega, hn, by show z.2.1 ≤ z.2.1 + 1; omega, by show z.2.1 + 1 + z.1 ≤ q + z.2.1; omega, e2, ?_, fun k h1 h2 => ?_⟩
  · show yp_dep (yp_lay x (q, z.2)).2.2 (z.2.1 + 1) = _
    rw [yp_dep_s, e1, if_pos (by omega), yp_dep_congr e2]
  · have h2 : k < z.2.1 + 1 := h2
    have : k = z.2.1 := by omega
    subst this
    unfold yp_tokOK
    rw [e1]
    rcases hx with h | h
    · exact .inl h
    · exact .inr (.inl h)
set_option maxHeartbeats 1000000 in
theorem yp_PQ.op {n q : Nat} {z0 z r : yp_LwT} {k : Nat} (h : yp_PQ n z0 z 1) (g : yp_PQ n (q, z.2) r 1) (hq : z.1 + 1 ≤ q) (hk : 2 ≤ k ∧ k ≤ 8) : yp_PQ n z0 (yp_lay (k, 0) r) 1 := by
  obtain ⟨h1, h2, h3, h4, h5, h6, h7⟩ := h
  obtain ⟨g1, g2, g3, g4, g5, g6, g7⟩ := g
  have g1 : q ≤ r.1 := g1
  have g3 : z.2.1 ≤ r.2.1 := g3
  have g4 : r.2.1 + q ≤ r.1 + z.2.1 := g4
  have g5 : ∀ k, k < z.2.1 → r.2.2 k = z.2.2 k := g5
  have g6 : yp_dep r.2.2 r.2.1 = yp_dep z.2.2 z.2.1 + 1 := g6
  have e1 : (yp_lay (k, 0) r).2.2 r.2.1 = (k, 0) := if_pos rfl
  have e2 : ∀ i, i < r.2.1 → (yp_lay (k, 0) r).2.2 i = r.2.2 i := fun i hi => if_neg (show i ≠ r.2.1 by omega)
  refine ⟨by show z0.1 ≤ r.1; omega, g2, by show z0.2.1 ≤ r.2.1 + 1; omega, by show r.2.1 + 1 + z0.1 ≤ r.1 + z0.2.1; omega, fun i hi => ?_, ?_, fun i i1 i2 => ?_⟩
  · rw [e2 i (by omega), g5 i (by omega), h5 i hi]
  · show yp_dep (yp_lay (k, 0) r).2.2 (r.2.1 + 1) = _
    rw [yp_dep_s, e1, if_neg (by show ¬ k ≤ 1; omega), yp_dep_congr e2]
    omega
  · have i2 : i < r.2.1 + 1 := i2
    by_cases e : i = r.2.1
    · subst e
      unfold yp_tokOK
      rw [e1, yp_dep_congr e2]
      exact .inr (.inr ⟨hk.1, hk.2, rfl, by omega⟩)
    · by_cases e3 : i < z.2.1
      · exact yp_tokOK_c (fun i' hi' => by rw [e2 i' (by omega), g5 i' (by omega)]) (h7 i i1 e3)
      · exact yp_tokOK_c (fun i' hi' => (e2 i' (by omega)).symm) (g7 i (by show z.2.1 ≤ i; omega) (by omega))
set_option maxHeartbeats 1000000 in
theorem yp_PQ.lt {n : Nat} {z z' : yp_LwT} (h : yp_PQ n z z' 1) : z.1 < z'.1 := by
  obtain ⟨h1, h2, h3, h4, h5, h6, h7⟩ := h
  by_cases e : z.2.1 = z'.2.1
  · exfalso
    rw [← e, yp_dep_congr (tk := z'.2.2) (tk' := z.2.2) h5] at h6
    omega
  · omega
section LAWC
variable {B : Nat} {t : Nat → Nat} {n : Nat}
def yp_LC (B : Nat) (m : Mem) (t : Nat → Nat) (n : Nat) (z : yp_LwT) : Prop := yp_CT B m t n z.1 ∧ yp_FL B m = (yp_N 0, -yp_N 1) ∧ m (B + 14) 2 = yp_N z.2.1 ∧ z.2.1 ≤ z.1 ∧ ∀ k, k < z.2.1 → m (B + 15) k = yp_ctok (z.2.2 k)
def yp_LM (B : Nat) (m : Mem) (t : Nat → Nat) (n : Nat) (z : yp_LwT) (o : Nat) : Prop := yp_RT B m t n z.1 ∧ m (B + 517) 5 = -yp_N 1 ∧ m (B + 517) 25 = yp_N z.2.1 ∧ z.2.1 ≤ z.1 ∧ (∀ k, k < z.2.1 → m (B + 524) k = yp_N (z.2.2 k).1 ∧ m (B + 525) k = yp_N (z.2.2 k).2) ∧ m (B + 517) 7 = yp_N o
def yp_TLc (B : Nat) : Nat → Nat → Prop := fun a j => (a = B + 1 ∧ (j = 3 ∨ j = 4 ∨ j = 5)) ∨ (a = B + 14 ∧ j = 2) ∨ a = B + 15
def yp_TLm (B : Nat) : Nat → Nat → Prop := fun a j => (a = B + 517 ∧ (j = 4 ∨ j = 5 ∨ j = 6 ∨ j = 7 ∨ j = 25)) ∨ a = B + 524 ∨ a = B + 525
set_option maxHeartbeats 1000000 in
theorem yp_T35_lc {m m' : Mem} (h : yp_Fr (yp_T35 B) m m') : yp_Fr (yp_TLc B) m m' := h.mono (fun a j q => by unfold yp_T35 at q; unfold yp_TLc; omega)
set_option maxHeartbeats 1000000 in
theorem yp_T46_lm {m m' : Mem} (h : yp_Fr (yp_T46 B) m m') : yp_Fr (yp_TLm B) m m' := h.mono (fun a j q => by unfold yp_T46 at q; unfold yp_TLm; omega)
set_option maxHeartbeats 1000000 in
theorem yp_LC.at {m : Mem} {z : yp_LwT} (h : yp_LC B m t n z) {q : Nat} (h1 : z.1 ≤ q) (h2 : q ≤ n) : yp_LC B (yp_cAt B m q) t n (q, z.2) :=
  ⟨h.1.at h2, by rw [yp_FL_at]; exact h.2.1, (yp_cAt_n _ (by omega)).trans h.2.2.1, Nat.le_trans h.2.2.2.1 h1, fun k hk => (yp_cAt_n _ (by omega)).trans (h.2.2.2.2 k hk)⟩
set_option maxHeartbeats 1000000 in
theorem yp_LM.at {m : Mem} {z : yp_LwT} {o : Nat} (h : yp_LM B m t n z o) {q : Nat} (h1 : z.1 ≤ q) (h2 : q ≤ n) : yp_LM B (yp_rAt B m q) t n (q, z.2) o :=
  ⟨h.1.at h2, (yp_rAt_n _ (by omega)).trans h.2.1, (yp_rAt_n _ (by omega)).trans h.2.2.1, Nat.le_trans h.2.2.2.1 h1, fun k hk => ⟨(yp_rAt_n _ (by omega)).trans (h.2.2.2.2.1 k hk).1, (yp_rAt_n _ (by omega)).trans (h.2.2.2.2.1 k hk).2⟩, (yp_rAt_n _ (by omega)).trans h.2.2.2.2.2⟩
set_option maxHeartbeats 1000000 in
theorem yp_LC.mv {m m' : Mem} {z : yp_LwT} (h : yp_LC B m t n z) {q : Nat} (h1 : z.1 ≤ q) (hc : yp_CT B m' t n q) (hf : yp_FL B m' = (yp_N 0, -yp_N 1)) (hF : yp_Fr (yp_T35 B) m m') : yp_LC B m' t n (q, z.2) :=
  ⟨hc, hf, (hF _ _ (by unfold yp_T35; omega)).trans h.2.2.1, Nat.le_trans h.2.2.2.1 h1, fun k hk => (hF _ _ (by unfold yp_T35; omega)).trans (h.2.2.2.2 k hk)⟩
set_option maxHeartbeats 1000000 in
theorem yp_LM.mv {m m' : Mem} {z : yp_LwT} {o : Nat} (h : yp_LM B m t n z o) {q : Nat} (h1 : z.1 ≤ q) (hc : yp_RT B m' t n q) (hf : m' (B + 517) 5 = -yp_N 1) (hF : yp_Fr (yp_T46 B) m m') : yp_LM B m' t n (q, z.2) o :=
  ⟨hc, hf, (hF _ _ (by unfold yp_T46; omega)).trans h.2.2.1, Nat.le_trans h.2.2.2.1 h1, fun k hk => ⟨(hF _ _ (by unfold yp_T46; omega)).trans (h.2.2.2.2.1 k hk).1, (hF _ _ (by unfold yp_T46; omega)).trans (h.2.2.2.2.1 k hk).2⟩, (hF _ _ (by unfold yp_T46; omega)).trans h.2.2.2.2.2⟩
def yp_layC (B : Nat) (m : Mem) (l : Nat) (x : Int32) : Mem := up2 (up2 m (B + 15) l x) (B + 14) 2 (yp_N (l + 1))
def yp_layM (B : Nat) (m : Mem) (l : Nat) (a b : Int32) : Mem := up2 (up2 (up2 m (B + 524) l a) (B + 525) l b) (B + 517) 25 (yp_N (l + 1))
set_option maxHeartbeats 1000000 in
theorem yp_lspS (B : Nat) : rR (yp_SH B) 4 (B + 14) 0 = some (B + 15) ∧ isO (yp_SH B) 4 (B + 14) = some () ∧ (∀ mm k, rI (yp_SH B) mm 4 (B + 14) k = some (mm (B + 14) k)) ∧ (∀ mm k v, wI (yp_SH B) mm 4 (B + 14) k v = some (up2 mm (B + 14) k v)) ∧ (∀ mm k v, k < 151 → aS (yp_SH B) mm (B + 15) (yp_N k) v = some (up2 mm (B + 15) k v)) ∧ aN (yp_SH B) (B + 15) = some (yp_N 151) := by
  refine ⟨?_, ?_, ?_, ?_, fun mm k v h => yp_aSN (yp_sa15 B) mm k v h (by omega), ?_⟩
  · rw [rR, yp_so14]; rfl
  · rw [isO, yp_so14]; rfl
  · intro mm k; rw [rI, yp_so14]; rfl
  · intro mm k v; rw [wI, yp_so14]; rfl
  · rw [aN, yp_sa15]; rfl
set_option maxHeartbeats 1000000 in
theorem yp_lmS (B : Nat) : rR (yp_SH B) 12 (B + 517) 20 = some (B + 524) ∧ rR (yp_SH B) 12 (B + 517) 21 = some (B + 525) ∧ rR (yp_SH B) 12 (B + 517) 22 = some (B + 526) ∧ rR (yp_SH B) 12 (B + 517) 23 = some (B + 527) ∧ (∀ mm k v, k < 150 → aS (yp_SH B) mm (B + 524) (yp_N k) v = some (up2 mm (B + 524) k v)) ∧ (∀ mm k v, k < 150 → aS (yp_SH B) mm (B + 525) (yp_N k) v = some (up2 mm (B + 525) k v)) := by
  refine ⟨?_, ?_, ?_, ?_, fun mm k v h => yp_aSN (yp_sa524 B) mm k v h (by omega), fun mm k v h => yp_aSN (yp_sa525 B) mm k v h (by omega)⟩
  all_goals (rw [rR, yp_so517]; rfl)
set_option maxHeartbeats 1000000 in
theorem yp_c_lay {m : Mem} {l : Nat} (h : m (B + 14) 2 = yp_N l) (hl : l < 151) (x : Int32) : fX4_lay (yp_SH B) (B + 14) x m = some (yp_N 1, yp_layC B m l x) := by
  have hS := yp_lspS B
  have e : up2 m (B + 15) l x (B + 14) 2 = yp_N l := by rw [yp_up2_n _ _ (by omega)]; exact h
  simp (disch := omega) only [fX4_lay, hS, h, e, Nat.reduceAdd, Nat.reduceMul, Nat.reduceSub, Nat.zero_add, Nat.add_zero, yp_LT, yp_nA, yp_nM, yp_ltF, yp_ltT, yp_leF, yp_leT, yp_eqF, eq_self, yp_eqM, yp_lt1N, yp_sbN, yp_sb2N, ↓reduceIte, ↓yp_iP11, ↓yp_iP12, ↓yp_m0P]
  rfl
set_option maxHeartbeats 1000000 in
theorem yp_m_emit1 {m : Mem} {l : Nat} (hf : m (B + 517) 5 = -yp_N 1) (h : m (B + 517) 25 = yp_N l) (hl : l < 150) (a b : Int32) : fX12_emit (yp_SH B) (B + 517) a b m = some (yp_layM B m l a b) := by
  have hM := yp_mS B
  have hS := yp_lmS B
  have f := yp_m_fine1 hf
  have e1 : up2 m (B + 524) l a (B + 517) 25 = yp_N l := by rw [yp_up2_n _ _ (by omega)]; exact h
  have e2 : up2 (up2 m (B + 524) l a) (B + 525) l b (B + 517) 25 = yp_N l := by rw [yp_up2_n _ _ (by omega)]; exact e1
  simp (disch := omega) only [fX12_emit, hM, hS, f, h, e1, e2, Nat.reduceAdd, Nat.reduceMul, Nat.reduceSub, Nat.zero_add, Nat.add_zero, yp_LT, yp_nA, yp_nM, yp_ltF, yp_ltT, yp_leF, yp_leT, yp_eqF, eq_self, yp_eqM, yp_lt1N, yp_sbN, yp_sb2N, ↓reduceIte, ↓yp_iP11, ↓yp_iP12, ↓yp_m0P]
  rfl
set_option maxHeartbeats 1000000 in
theorem yp_m_emit0 {m : Mem} (hf : ¬ m (B + 517) 5 = -yp_N 1) (a b : Int32) : fX12_emit (yp_SH B) (B + 517) a b m = some m := by
  have hM := yp_mS B
  have f := yp_m_fine0 hf
  simp (disch := omega) only [fX12_emit, hM, f, Nat.reduceAdd, Nat.reduceMul, Nat.reduceSub, Nat.zero_add, Nat.add_zero, yp_LT, yp_nA, yp_nM, yp_ltF, yp_ltT, yp_leF, yp_leT, yp_eqF, eq_self, yp_eqM, yp_lt1N, yp_sbN, yp_sb2N, ↓reduceIte, ↓yp_iP11, ↓yp_iP12, ↓yp_m0P]
set_option maxHeartbeats 1000000 in
theorem yp_layC_n {m : Mem} {l a j : Nat} {x : Int32} (h1 : ¬ (a = B + 14 ∧ j = 2)) (h2 : ¬ (a = B + 15 ∧ j = l)) : yp_layC B m l x a j = m a j := by
  unfold yp_layC
  rw [yp_up2_n _ _ (by omega), yp_up2_n _ _ (by omega)]
set_option maxHeartbeats 1000000 in
theorem yp_layM_n {m : Mem} {l a j : Nat} {x y : Int32} (h1 : ¬ (a = B + 517 ∧ j = 25)) (h2 : ¬ ((a = B + 524 ∨ a = B + 525) ∧ j = l)) : yp_layM B m l x y a j = m a j := by
  unfold yp_layM
  rw [yp_up2_n _ _ (by omega), yp_up2_n _ _ (by omega), yp_up2_n _ _ (by omega)]
set_option maxHeartbeats 1000000 in
theorem yp_LC.lay {m : Mem} {z : yp_LwT} (h : yp_LC B m t n z) (x : Nat × Nat) (hl : z.2.1 + 1 ≤ z.1) : yp_LC B (yp_layC B m z.2.1 (yp_ctok x)) t n (yp_lay x z) ∧ yp_Fr (yp_TLc B) m (yp_layC B m z.2.1 (yp_ctok x)) := by
  refine ⟨⟨h.1.fr (fun a j q => yp_layC_n (by omega) (by omega)), ?_, ?_, hl, fun k hk => ?_⟩, fun a j q => yp_layC_n (by unfold yp_TLc at q; omega) (by unfold yp_TLc at q; omega)⟩
  · rw [← h.2.1]; exact yp_FL_fr (fun j q => yp_layC_n (by omega) (by omega))
  · unfold yp_layC; rw [yp_up2_s]; try rfl
  · have hk : k < z.2.1 + 1 := hk
    by_cases e : k = z.2.1
    · rw [e, yp_lay_tx]; unfold yp_layC; rw [yp_up2_n _ _ (by omega), yp_up2_s]
    · rw [yp_lay_tk e, yp_layC_n (by omega) (by omega)]; exact h.2.2.2.2 k (by omega)
set_option maxHeartbeats 1000000 in
theorem yp_LM.lay {m : Mem} {z : yp_LwT} {o : Nat} (h : yp_LM B m t n z o) (x : Nat × Nat) (hl : z.2.1 + 1 ≤ z.1) : yp_LM B (yp_layM B m z.2.1 (yp_N x.1) (yp_N x.2)) t n (yp_lay x z) o ∧ yp_Fr (yp_TLm B) m (yp_layM B m z.2.1 (yp_N x.1) (yp_N x.2)) := by
  refine ⟨⟨h.1.fr (fun a j q => yp_layM_n (by omega) (by omega)), ?_, ?_, hl, fun k hk => ?_, ?_⟩, fun a j q => yp_layM_n (by unfold yp_TLm at q; omega) (by unfold yp_TLm at q; omega)⟩
  · rw [yp_layM_n (by omega) (by omega)]; exact h.2.1
  · unfold yp_layM; rw [yp_up2_s]; try rfl
  · have hk : k < z.2.1 + 1 := hk
    by_cases e : k = z.2.1
    · rw [e, yp_lay_tx]
      unfold yp_layM
      rw [yp_up2_n _ _ (by omega), yp_up2_n _ _ (by omega), yp_up2_s, yp_up2_n _ _ (by omega), yp_up2_s]
      exact ⟨rfl, rfl⟩
    · rw [yp_lay_tk e, yp_layM_n (by omega) (by omega), yp_layM_n (by omega) (by omega)]; exact h.2.2.2.2.1 k (by omega)
  · rw [yp_layM_n (by omega) (by omega)]; exact h.2.2.2.2.2
def yp_KC2 (B : Nat) (t : Nat → Nat) (n : Nat) (z : yp_LwT) (r : yp_LwR) (fc : Mem → Option (Int32 × Mem)) : Prop := ∀ m, yp_LC B m t n z → ∃ m', fc m = some (if r.1.1 = 0 then yp_N 1 else yp_N 0, m') ∧ yp_Fr (yp_TLc B) m m' ∧ yp_FL B m' = yp_FLk r.1 ∧ (r.1.1 = 0 → yp_LC B m' t n r.2)
def yp_KM2 (B : Nat) (t : Nat → Nat) (n o : Nat) (z : yp_LwT) (r : yp_LwR) (fm : Mem → Option Mem) : Prop := ∀ m, yp_LM B m t n z o → ∃ m', fm m = some m' ∧ yp_Fr (yp_TLm B) m m' ∧ yp_RS B m' r.1 ∧ (r.1.1 = 0 → yp_LM B m' t n r.2 o)
def yp_KU (B : Nat) (t : Nat → Nat) (n o : Nat) (U : yp_LwT → Option yp_LwR) (fc : Mem → Option (Int32 × Mem)) (fm : Mem → Option Mem) : Prop := (∀ z : yp_LwT, z.1 ≤ n → z.2.1 ≤ z.1 → ∃ r, U z = some r ∧ yp_fok r.1 ∧ (r.1.1 = 0 → yp_PQ n z r.2 1) ∧ yp_KC2 B t n z r fc ∧ yp_KM2 B t n o z r fm) ∧ ∀ m, ¬ m (B + 517) 5 = -yp_N 1 → fm m = some m
def yp_chS (t : Nat → Nat) (n : Nat) (U : yp_LwT → Option yp_LwR) (op : Nat → Nat) (r : yp_LwR) : Option (yp_LwR ⊕ yp_LwR) :=
  if r.1.1 = 0 then (if yp_sk t n r.2.1 < n ∧ op (t (yp_sk t n r.2.1)) ≠ 0 then (U (yp_sk t n r.2.1 + 1, r.2.2)).bind (fun r' => some (.inl (if r'.1.1 = 0 then (r'.1, yp_lay (op (t (yp_sk t n r.2.1)), 0) r'.2) else r'))) else some (.inr (r.1, yp_sk t n r.2.1, r.2.2))) else some (.inr r)
set_option maxHeartbeats 1000000 in
theorem yp_chS_a {U : yp_LwT → Option yp_LwR} {op : Nat → Nat} {r r' : yp_LwR} (e : r.1.1 = 0) (e2 : yp_sk t n r.2.1 < n ∧ op (t (yp_sk t n r.2.1)) ≠ 0) (yp_b1 : U (yp_sk t n r.2.1 + 1, r.2.2) = some r') (e3 : r'.1.1 = 0) : yp_chS t n U op r = some (.inl (r'.1, yp_lay (op (t (yp_sk t n r.2.1)), 0) r'.2)) := by
  unfold yp_chS
  rw [if_pos e, if_pos e2, yp_b1]
  show some (Sum.inl (if r'.1.1 = 0 then (r'.1, yp_lay (op (t (yp_sk t n r.2.1)), 0) r'.2) else r')) = _
  rw [if_pos e3]
set_option maxHeartbeats 1000000 in
theorem yp_chS_b {U : yp_LwT → Option yp_LwR} {op : Nat → Nat} {r r' : yp_LwR} (e : r.1.1 = 0) (e2 : yp_sk t n r.2.1 < n ∧ op (t (yp_sk t n r.2.1)) ≠ 0) (yp_b1 : U (yp_sk t n r.2.1 + 1, r.2.2) = some r') (e3 : ¬ r'.1.1 = 0) : yp_chS t n U op r = some (.inl r') := by
  unfold yp_chS
  rw [if_pos e, if_pos e2, yp_b1]
  show some (Sum.inl (if r'.1.1 = 0 then (r'.1, yp_lay (op (t (yp_sk t n r.2.1)), 0) r'.2) else r')) = _
  rw [if_neg e3]
set_option maxHeartbeats 1000000 in
theorem yp_chS_c {U : yp_LwT → Option yp_LwR} {op : Nat → Nat} {r : yp_LwR} (e : r.1.1 = 0) (e2 : ¬ (yp_sk t n r.2.1 < n ∧ op (t (yp_sk t n r.2.1)) ≠ 0)) : yp_chS t n U op r = some (.inr (r.1, yp_sk t n r.2.1, r.2.2)) := by
  unfold yp_chS
  rw [if_pos e, if_neg e2]
set_option maxHeartbeats 1000000 in
theorem yp_chS_d {U : yp_LwT → Option yp_LwR} {op : Nat → Nat} {r : yp_LwR} (e : ¬ r.1.1 = 0) : yp_chS t n U op r = some (.inr r) := by
  unfold yp_chS
  rw [if_neg e]
def yp_chain (t : Nat → Nat) (n : Nat) (U : yp_LwT → Option yp_LwR) (op : Nat → Nat) (z : yp_LwT) : Option yp_LwR := (U z).bind (fun r => loopN (yp_chS t n U op) FU r)
def yp_chmu (n : Nat) (r : yp_LwR) : Nat := if r.1.1 = 0 then n + 2 - r.2.1 else 0
set_option maxHeartbeats 1000000 in
theorem yp_ch_pure {U : yp_LwT → Option yp_LwR} {op : Nat → Nat} (hn : n ≤ 150) (hop : ∀ c, op c = 0 ∨ (2 ≤ op c ∧ op c ≤ 8)) (hU : ∀ z : yp_LwT, z.1 ≤ n → z.2.1 ≤ z.1 → ∃ r, U z = some r ∧ yp_fok r.1 ∧ (r.1.1 = 0 → yp_PQ n z r.2 1)) (z0 : yp_LwT) (h0 : z0.2.1 ≤ z0.1) (r0 : yp_LwR) (h1 : yp_fok r0.1) (h2 : r0.1.1 = 0 → yp_PQ n z0 r0.2 1) : ∃ y, loopN (yp_chS t n U op) FU r0 = some y ∧ yp_fok y.1 ∧ (y.1.1 = 0 → yp_PQ n z0 y.2 1) := by
  refine yp_lpP (fun r => yp_fok r.1 ∧ (r.1.1 = 0 → yp_PQ n z0 r.2 1)) (fun y : yp_LwR => yp_fok y.1 ∧ (y.1.1 = 0 → yp_PQ n z0 y.2 1)) (yp_chmu n) (fun r hr => ?_) FU r0 (by rw [yp_FUe]; unfold yp_chmu; split <;> omega) ⟨h1, h2⟩
  obtain ⟨a1, a2⟩ := hr
  by_cases e : r.1.1 = 0
  · have q := a2 e
    have hle : r.2.1 ≤ n := q.2.1
    have hs := yp_sk_ge t n r.2.1
    have hs2 := yp_sk_le (t := t) hle
    have hlen : r.2.2.1 ≤ r.2.1 := by have := q.2.2.2.1; omega
    by_cases e2 : yp_sk t n r.2.1 < n ∧ op (t (yp_sk t n r.2.1)) ≠ 0
    · obtain ⟨r', yp_b1, b2, b3⟩ := hU (yp_sk t n r.2.1 + 1, r.2.2) (by show yp_sk t n r.2.1 + 1 ≤ n; omega) (by show r.2.2.1 ≤ yp_sk t n r.2.1 + 1; omega)
      by_cases e3 : r'.1.1 = 0
      · have b4 : yp_sk t n r.2.1 + 1 < r'.2.1 := (b3 e3).lt
        refine .inl ⟨_, yp_chS_a e e2 yp_b1 e3, ⟨b2, fun _ => q.op (b3 e3) (by omega) (by have := hop (t (yp_sk t n r.2.1)); omega)⟩, ?_⟩
        unfold yp_chmu
        rw [if_pos e, if_pos e3]
        show n + 2 - r'.2.1 < n + 2 - r.2.1
        omega
      · refine .inl ⟨_, yp_chS_b e e2 yp_b1 e3, ⟨b2, fun k => absurd k e3⟩, ?_⟩
        unfold yp_chmu
        rw [if_pos e, if_neg e3]
        omega
    · exact .inr ⟨_, yp_chS_c e e2, a1, fun _ => q.en hs hs2⟩
  · exact .inr ⟨_, yp_chS_d e, a1, fun k => absurd k e⟩
set_option maxHeartbeats 1000000 in
theorem yp_ch_c {U : yp_LwT → Option yp_LwR} {op : Nat → Nat} {fc : Mem → Option (Int32 × Mem)} {cs : Int32 × Int32 × Mem → Option ((Int32 × Int32 × Mem) ⊕ (Mem ⊕ (Int32 × Mem)))} (hn : n ≤ 150) (hU : ∀ z : yp_LwT, z.1 ≤ n → z.2.1 ≤ z.1 → ∃ r, U z = some r ∧ yp_fok r.1 ∧ (r.1.1 = 0 → yp_PQ n z r.2 1) ∧ yp_KC2 B t n z r fc)
    (hc0 : ∀ i m, i < 150 → cs (yp_N 0, yp_N i, m) = some (.inr (.inr (yp_N 0, m))))
    (hc1 : ∀ i m z, i < 150 → yp_LC B m t n z → ¬ (yp_sk t n z.1 < n ∧ op (t (yp_sk t n z.1)) ≠ 0) → cs (yp_N 1, yp_N i, m) = some (.inr (.inl (yp_cAt B m (yp_sk t n z.1)))))
    (hc2 : ∀ i m z, i < 150 → yp_LC B m t n z → (yp_sk t n z.1 < n ∧ op (t (yp_sk t n z.1)) ≠ 0) → ∀ m1, (fc (yp_cAt B m (yp_sk t n z.1 + 1)) = some (yp_N 0, m1) → cs (yp_N 1, yp_N i, m) = some (.inl (yp_N 0, yp_N (i + 1), m1))) ∧ (∀ l, fc (yp_cAt B m (yp_sk t n z.1 + 1)) = some (yp_N 1, m1) → m1 (B + 14) 2 = yp_N l → l < 151 → cs (yp_N 1, yp_N i, m) = some (.inl (yp_N 1, yp_N (i + 1), yp_layC B m1 l (yp_ctok (op (t (yp_sk t n z.1)), 0))))))
    (z0 : yp_LwT) (h0 : z0.2.1 ≤ z0.1) (yp_m0 m : Mem) (r0 : yp_LwR) (hF : yp_Fr (yp_TLc B) yp_m0 m) (h1 : yp_FL B m = yp_FLk r0.1) (h2 : r0.1.1 = 0 → yp_LC B m t n r0.2 ∧ 1 ≤ r0.2.1) : ∃ x y, loopN cs FU (if r0.1.1 = 0 then yp_N 1 else yp_N 0, yp_N 0, m) = some x ∧ loopN (yp_chS t n U op) FU r0 = some y ∧ ((y.1.1 = 0 ∧ ∃ m', x = .inl m' ∧ yp_LC B m' t n y.2 ∧ yp_Fr (yp_TLc B) yp_m0 m') ∨ (y.1.1 ≠ 0 ∧ ∃ m', x = .inr (yp_N 0, m') ∧ yp_FL B m' = yp_FLk y.1 ∧ yp_Fr (yp_TLc B) yp_m0 m')) := by
  refine yp_lpSim (step := cs) (ps := yp_chS t n U op) (fun s r => ∃ i m', s = (if r.1.1 = 0 then yp_N 1 else yp_N 0, yp_N i, m') ∧ i < 150 ∧ yp_Fr (yp_TLc B) yp_m0 m' ∧ yp_FL B m' = yp_FLk r.1 ∧ (r.1.1 = 0 → yp_LC B m' t n r.2 ∧ i + 1 ≤ r.2.1)) _ (yp_chmu n) (fun s r hR => ?_) FU _ r0 (by rw [yp_FUe]; unfold yp_chmu; split <;> omega) ⟨0, m, rfl, by omega, hF, h1, h2⟩
  obtain ⟨i, m', rfl, i1, i2, i3, i4⟩ := hR
  by_cases e : r.1.1 = 0
  · obtain ⟨c1, c2⟩ := i4 e
    rw [if_pos e]
    have hle : r.2.1 ≤ n := c1.1.2.2.1
    have hs := yp_sk_ge t n r.2.1
    have hs2 := yp_sk_le (t := t) hle
    by_cases e2 : yp_sk t n r.2.1 < n ∧ op (t (yp_sk t n r.2.1)) ≠ 0
    · obtain ⟨r', yp_b1, b2, b3, b4⟩ := hU (yp_sk t n r.2.1 + 1, r.2.2) (by show yp_sk t n r.2.1 + 1 ≤ n; omega) (by show r.2.2.1 ≤ yp_sk t n r.2.1 + 1; have := c1.2.2.2.1; omega)
      obtain ⟨m1, d1, d2, d3, d4⟩ := b4 _ (c1.at (q := yp_sk t n r.2.1 + 1) (by omega) (by omega))
      have F1 : yp_Fr (yp_TLc B) yp_m0 m1 := (i2.tr (yp_T35_lc (yp_Fr_at _))).tr d2
      have q := hc2 i m' r.2 i1 c1 e2 m1
      by_cases e3 : r'.1.1 = 0
      · rw [if_pos e3] at d1
        have d5 := d4 e3
        have b5 := b3 e3
        have b6 : yp_sk t n r.2.1 + 1 < r'.2.1 := b5.lt
        have b7 : r'.2.2.1 + (yp_sk t n r.2.1 + 1) ≤ r'.2.1 + r.2.2.1 := b5.2.2.2.1
        have b8 : r'.2.1 ≤ n := b5.2.1
        have c3 := c1.2.2.2.1
        obtain ⟨g1, g2⟩ := d5.lay (op (t (yp_sk t n r.2.1)), 0) (by omega)
        refine .inl ⟨_, _, q.2 r'.2.2.1 d1 d5.2.2.1 (by omega), yp_chS_a e e2 yp_b1 e3, ⟨i + 1, _, by rw [if_pos e3], by omega, F1.tr g2, ?_, fun _ => ⟨g1, by show i + 1 + 1 ≤ r'.2.1; omega⟩⟩, ?_⟩
        · rw [g1.2.1, yp_FLk_0 e3]
        · unfold yp_chmu
          rw [if_pos e, if_pos e3]
          show n + 2 - r'.2.1 < n + 2 - r.2.1
          omega
      · rw [if_neg e3] at d1
        refine .inl ⟨_, _, q.1 d1, yp_chS_b e e2 yp_b1 e3, ⟨i + 1, m1, by rw [if_neg e3], by omega, F1, d3, fun k => absurd k e3⟩, ?_⟩
        unfold yp_chmu
        rw [if_pos e, if_neg e3]
        omega
    · exact .inr ⟨_, _, hc1 i m' r.2 i1 c1 e2, yp_chS_c e e2, .inl ⟨e, _, rfl, c1.at hs hs2, i2.tr (yp_T35_lc (yp_Fr_at _))⟩⟩
  · rw [if_neg e]
    exact .inr ⟨_, _, hc0 i m' i1, yp_chS_d e, .inr ⟨e, m', rfl, i3, i2⟩⟩
set_option maxHeartbeats 1000000 in
theorem yp_ch_m {U : yp_LwT → Option yp_LwR} {op : Nat → Nat} {fm : Mem → Option Mem} {ms : Mem → Option (Mem ⊕ Mem)} {o : Nat} (hn : n ≤ 150) (hU : ∀ z : yp_LwT, z.1 ≤ n → z.2.1 ≤ z.1 → ∃ r, U z = some r ∧ yp_fok r.1 ∧ (r.1.1 = 0 → yp_PQ n z r.2 1) ∧ yp_KM2 B t n o z r fm)
    (hm0 : ∀ m, ¬ m (B + 517) 5 = -yp_N 1 → ms m = some (.inr m))
    (hm1 : ∀ m z, yp_LM B m t n z o → ¬ (yp_sk t n z.1 < n ∧ op (t (yp_sk t n z.1)) ≠ 0) → ms m = some (.inr (yp_rAt B m (yp_sk t n z.1))))
    (hm2 : ∀ m z, yp_LM B m t n z o → (yp_sk t n z.1 < n ∧ op (t (yp_sk t n z.1)) ≠ 0) → ∀ m1 m2, fm (yp_rAt B m (yp_sk t n z.1 + 1)) = some m1 → fX12_emit (yp_SH B) (B + 517) (yp_N (op (t (yp_sk t n z.1)))) (yp_N 0) m1 = some m2 → ms m = some (.inl m2))
    (z0 : yp_LwT) (h0 : z0.2.1 ≤ z0.1) (yp_m0 m : Mem) (r0 : yp_LwR) (hF : yp_Fr (yp_TLm B) yp_m0 m) (h1 : yp_RS B m r0.1) (h2 : r0.1.1 = 0 → yp_LM B m t n r0.2 o) : ∃ x y, loopN ms FU m = some x ∧ loopN (yp_chS t n U op) FU r0 = some y ∧ yp_RS B x y.1 ∧ yp_Fr (yp_TLm B) yp_m0 x ∧ (y.1.1 = 0 → yp_LM B x t n y.2 o) := by
  refine yp_lpSim (step := ms) (ps := yp_chS t n U op) (fun s r => yp_Fr (yp_TLm B) yp_m0 s ∧ yp_RS B s r.1 ∧ (r.1.1 = 0 → yp_LM B s t n r.2 o)) (fun x y => yp_RS B x y.1 ∧ yp_Fr (yp_TLm B) yp_m0 x ∧ (y.1.1 = 0 → yp_LM B x t n y.2 o)) (yp_chmu n) (fun s r hR => ?_) FU m r0 (by rw [yp_FUe]; unfold yp_chmu; split <;> omega) ⟨hF, h1, h2⟩
  obtain ⟨i2, i3, i4⟩ := hR
  by_cases e : r.1.1 = 0
  · have c1 := i4 e
    have hle : r.2.1 ≤ n := c1.1.2.2.1
    have hs := yp_sk_ge t n r.2.1
    have hs2 := yp_sk_le (t := t) hle
    by_cases e2 : yp_sk t n r.2.1 < n ∧ op (t (yp_sk t n r.2.1)) ≠ 0
    · obtain ⟨r', yp_b1, b2, b3, b4⟩ := hU (yp_sk t n r.2.1 + 1, r.2.2) (by show yp_sk t n r.2.1 + 1 ≤ n; omega) (by show r.2.2.1 ≤ yp_sk t n r.2.1 + 1; have := c1.2.2.2.1; omega)
      obtain ⟨m1, d1, d2, d3, d4⟩ := b4 _ (c1.at (q := yp_sk t n r.2.1 + 1) (by omega) (by omega))
      have F1 : yp_Fr (yp_TLm B) yp_m0 m1 := (i2.tr (yp_T46_lm (yp_Fr_rAt _))).tr d2
      have q := hm2 s r.2 c1 e2 m1
      by_cases e3 : r'.1.1 = 0
      · have d5 := d4 e3
        have b5 := b3 e3
        have b6 : yp_sk t n r.2.1 + 1 < r'.2.1 := b5.lt
        have b7 : r'.2.2.1 + (yp_sk t n r.2.1 + 1) ≤ r'.2.1 + r.2.2.1 := b5.2.2.2.1
        have b8 : r'.2.1 ≤ n := b5.2.1
        have c3 := c1.2.2.2.1
        obtain ⟨g1, g2⟩ := d5.lay (op (t (yp_sk t n r.2.1)), 0) (by omega)
        have g3 := yp_m_emit1 d5.2.1 d5.2.2.1 (show r'.2.2.1 < 150 by omega) (yp_N (op (t (yp_sk t n r.2.1)))) (yp_N 0)
        refine .inl ⟨_, _, q _ d1 g3, yp_chS_a e e2 yp_b1 e3, ⟨F1.tr g2, ⟨b2, .inl ⟨e3, g1.2.1⟩⟩, fun _ => g1⟩, ?_⟩
        unfold yp_chmu
        rw [if_pos e, if_pos e3]
        show n + 2 - r'.2.1 < n + 2 - r.2.1
        omega
      · have g3 := yp_m_emit0 (d3.bad e3) (yp_N (op (t (yp_sk t n r.2.1)))) (yp_N 0)
        refine .inl ⟨_, _, q _ d1 g3, yp_chS_b e e2 yp_b1 e3, ⟨F1, d3, fun k => absurd k e3⟩, ?_⟩
        unfold yp_chmu
        rw [if_pos e, if_neg e3]
        omega
    · have g1 := c1.at hs hs2
      exact .inr ⟨_, _, hm1 s r.2 c1 e2, yp_chS_c e e2, ⟨i3.1, .inl ⟨e, g1.2.1⟩⟩, i2.tr (yp_T46_lm (yp_Fr_rAt _)), fun _ => g1⟩
  · exact .inr ⟨_, _, hm0 s (i3.bad e), yp_chS_d e, i3, i2, i4⟩
end LAWC

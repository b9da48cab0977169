abbrev yp_Rw : Type := Nat × Nat × Nat × Nat × Nat × Nat
abbrev yp_WkT : Type := Nat × Nat × (Nat → yp_Rw)
abbrev yp_WkR : Type := (Nat × Nat) × yp_WkT
def yp_psh (x : yp_Rw) (z : yp_WkT) (p : Nat) : yp_WkT := (p, z.2.1 + 1, fun i => if i = z.2.1 then x else z.2.2 i)
def yp_rwOK (nf ng o b : Nat) (R : Nat → yp_Rw) (k : Nat) : Prop := o ≤ (R k).2.2.2.2.2 ∧ (((R k).1 < 2 ∧ (R k).2.1 < nf ∧ (R k).2.2.1 < ng) ∨ (((R k).1 = 2 ∨ (R k).1 = 3) ∧ (R k).2.1 < nf ∧ (R k).2.2.1 < 7 ∧ 1 ≤ (R k).2.2.2.1 ∧ (R k).2.2.2.1 ≤ 40) ∨ ((R k).1 = 4 ∧ (R k).2.1 < nf ∧ (R k).2.2.1 < nf ∧ (R k).2.2.2.1 < 7) ∨ (R k).1 = 5 ∨ ((R k).1 = 6 ∧ (R k).2.1 ≤ 40 ∧ k + 1 ≤ (R k).2.2.2.2.1 ∧ (R k).2.2.2.2.1 ≤ b ∧ (R k).2.2.2.2.2 ≤ 5 ∧ ∀ j, k < j → j < (R k).2.2.2.2.1 → (R k).2.2.2.2.2 + 1 ≤ (R j).2.2.2.2.2))
def yp_rwsOK (nf ng o a b : Nat) (R : Nat → yp_Rw) : Prop := ∀ k, a ≤ k → k < b → yp_rwOK nf ng o b R k
def yp_PW (n nf ng o : Nat) (z z' : yp_WkT) : Prop := z.1 ≤ z'.1 ∧ z'.1 ≤ n ∧ z.2.1 ≤ z'.2.1 ∧ 4 * z'.2.1 + z.1 ≤ z'.1 + 4 * z.2.1 ∧ (∀ k, k < z.2.1 → z'.2.2 k = z.2.2 k) ∧ yp_rwsOK nf ng o z.2.1 z'.2.1 z'.2.2
set_option maxHeartbeats 1000000 in
theorem yp_rwOK_c {nf ng o b b' : Nat} {R R' : Nat → yp_Rw} {k : Nat} (h : yp_rwOK nf ng o b R k) (hb : b ≤ b') (hk : k < b) (he : ∀ j, k ≤ j → j < b → R' j = R j) : yp_rwOK nf ng o b' R' k := by
  unfold yp_rwOK at h ⊢
  rw [he k (Nat.le_refl k) hk]
  refine ⟨h.1, ?_⟩
  rcases h.2 with q | q | q | q | q
  · exact .inl q
  · exact .inr (.inl q)
  · exact .inr (.inr (.inl q))
  · exact .inr (.inr (.inr (.inl q)))
  · refine .inr (.inr (.inr (.inr ⟨q.1, q.2.1, q.2.2.1, Nat.le_trans q.2.2.2.1 hb, q.2.2.2.2.1, fun j h1 h2 => ?_⟩)))
    rw [he j (by omega) (by omega)]
    exact q.2.2.2.2.2 j h1 h2
set_option maxHeartbeats 1000000 in
theorem yp_PW.rf {n nf ng o q : Nat} {z : yp_WkT} (h1 : z.1 ≤ q) (h2 : q ≤ n) : yp_PW n nf ng o z (q, z.2) := ⟨h1, h2, Nat.le_refl _, by show 4 * z.2.1 + z.1 ≤ q + 4 * z.2.1; omega, fun _ _ => rfl, fun k k1 k2 => absurd k2 (by show ¬ k < z.2.1; omega)⟩
set_option maxHeartbeats 1000000 in
theorem yp_PW.tr {n nf ng o : Nat} {z z' z'' : yp_WkT} (h : yp_PW n nf ng o z z') (g : yp_PW n nf ng o z' z'') : yp_PW n nf ng o z z'' := by
  obtain ⟨h1, h2, h3, h4, h5, h6⟩ := h
  obtain ⟨g1, g2, g3, g4, g5, g6⟩ := g
  refine ⟨by omega, g2, by omega, by omega, fun k hk => (g5 k (by omega)).trans (h5 k hk), fun k k1 k2 => ?_⟩
  by_cases e : k < z'.2.1
  · exact yp_rwOK_c (h6 k k1 e) g3 e (fun j _ hj => g5 j hj)
  · exact g6 k (by omega) k2
set_option maxHeartbeats 1000000 in
theorem yp_PW.lev {n nf ng o o' : Nat} {z z' : yp_WkT} (h : yp_PW n nf ng o z z') (ho : o' ≤ o) : yp_PW n nf ng o' z z' := ⟨h.1, h.2.1, h.2.2.1, h.2.2.2.1, h.2.2.2.2.1, fun k k1 k2 => ⟨Nat.le_trans ho (h.2.2.2.2.2 k k1 k2).1, (h.2.2.2.2.2 k k1 k2).2⟩⟩
set_option maxHeartbeats 1000000 in
theorem yp_PW.st {n nf ng o q : Nat} {z z' : yp_WkT} (h : yp_PW n nf ng o (q, z.2) z') (hq : z.1 ≤ q) : yp_PW n nf ng o z z' := (yp_PW.rf (z := z) hq (by have := h.1; have := h.2.1; show q ≤ n; exact Nat.le_trans h.1 h.2.1)).tr h
def yp_stp (t : Nat → Nat) (n o p : Nat) : Nat := if o = 0 then (if yp_sk t n p < n then 1 else 0) else yp_sgk t n p 93
def yp_stW (t : Nat → Nat) (n o : Nat) (step : yp_WkT → Option yp_WkR) (z : yp_WkT) : Option (yp_WkT ⊕ yp_WkR) := if yp_stp t n o z.1 = 0 then some (.inr ((0, 0), (yp_sk t n z.1, z.2))) else (step (yp_sk t n z.1, z.2)).bind (fun r => if r.1.1 = 0 then some (.inl r.2) else some (.inr r))
set_option maxHeartbeats 1000000 in
theorem yp_stW_a {t : Nat → Nat} {n o : Nat} {step : yp_WkT → Option yp_WkR} {z : yp_WkT} (h2 : yp_stp t n o z.1 = 0) : yp_stW t n o step z = some (.inr ((0, 0), (yp_sk t n z.1, z.2))) := by
  unfold yp_stW; rw [if_pos h2]
set_option maxHeartbeats 1000000 in
theorem yp_stW_b {t : Nat → Nat} {n o : Nat} {step : yp_WkT → Option yp_WkR} {z : yp_WkT} {r : yp_WkR} (h2 : ¬ yp_stp t n o z.1 = 0) (h3 : step (yp_sk t n z.1, z.2) = some r) (h : r.1.1 = 0) : yp_stW t n o step z = some (.inl r.2) := by
  unfold yp_stW; rw [if_neg h2, h3]; exact if_pos h
set_option maxHeartbeats 1000000 in
theorem yp_stW_c {t : Nat → Nat} {n o : Nat} {step : yp_WkT → Option yp_WkR} {z : yp_WkT} {r : yp_WkR} (h2 : ¬ yp_stp t n o z.1 = 0) (h3 : step (yp_sk t n z.1, z.2) = some r) (h : ¬ r.1.1 = 0) : yp_stW t n o step z = some (.inr r) := by
  unfold yp_stW; rw [if_neg h2, h3]; exact if_neg h
section WORKR
variable {B : Nat} {t : Nat → Nat} {n nf ng : Nat}
def yp_TWc (B l : Nat) : Nat → Nat → Prop := fun a j => (a = B + 1 ∧ (j = 3 ∨ j = 4 ∨ j = 5)) ∨ (a = B + 27 ∧ j = 8) ∨ (B + 28 ≤ a ∧ a ≤ B + 32 ∧ l ≤ j)
def yp_TWm (B l : Nat) : Nat → Nat → Prop := fun a j => (a = B + 517 ∧ (j = 4 ∨ j = 5 ∨ j = 6 ∨ j = 7 ∨ j = 30)) ∨ (a = B + 530 ∧ 4 * l ≤ j)
def yp_WC (B : Nat) (m : Mem) (t : Nat → Nat) (n nf ng : Nat) (z : yp_WkT) : Prop := yp_CT B m t n z.1 ∧ yp_FL B m = (yp_N 0, -yp_N 1) ∧ m (B + 27) 8 = yp_N z.2.1 ∧ 4 * z.2.1 ≤ z.1 ∧ m (B + 3) 3 = yp_N nf ∧ m (B + 3) 4 = yp_N ng
def yp_WM (B : Nat) (m : Mem) (t : Nat → Nat) (n nf ng : Nat) (z : yp_WkT) (o : Nat) : Prop := yp_RT B m t n z.1 ∧ m (B + 517) 5 = -yp_N 1 ∧ m (B + 517) 30 = yp_N (4 * z.2.1) ∧ 4 * z.2.1 ≤ z.1 ∧ (m (B + 517) 17 = yp_N nf ∧ m (B + 517) 18 = yp_N ng) ∧ m (B + 517) 7 = yp_N o
def yp_rowC (B : Nat) (m : Mem) (k : Nat) (x : yp_Rw) : Prop := m (B + 28) k = yp_N x.1 ∧ (x.1 ≠ 5 → m (B + 29) k = yp_N x.2.1) ∧ (x.1 < 5 → m (B + 30) k = yp_N x.2.2.1) ∧ (2 ≤ x.1 → x.1 ≤ 4 → m (B + 31) k = yp_N x.2.2.2.1) ∧ (x.1 = 6 → m (B + 32) k = yp_N x.2.2.2.2.1)
def yp_rowM (B : Nat) (m : Mem) (k : Nat) (x : yp_Rw) : Prop := m (B + 530) (4 * k) = yp_N x.1 ∧ m (B + 530) (4 * k + 1) = yp_N x.2.1 ∧ m (B + 530) (4 * k + 2) = yp_N (if x.1 = 6 then 4 * x.2.2.2.2.1 else x.2.2.1) ∧ m (B + 530) (4 * k + 3) = yp_N x.2.2.2.1
set_option maxHeartbeats 1000000 in
theorem yp_rowC.fr {m m' : Mem} {k : Nat} {x : yp_Rw} (h : yp_rowC B m k x) (hf : ∀ a, B + 28 ≤ a → a ≤ B + 32 → m' a k = m a k) : yp_rowC B m' k x :=
  ⟨(hf _ (by omega) (by omega)).trans h.1, fun q => (hf _ (by omega) (by omega)).trans (h.2.1 q), fun q => (hf _ (by omega) (by omega)).trans (h.2.2.1 q), fun q q2 => (hf _ (by omega) (by omega)).trans (h.2.2.2.1 q q2), fun q => (hf _ (by omega) (by omega)).trans (h.2.2.2.2 q)⟩
set_option maxHeartbeats 1000000 in
theorem yp_rowM.fr {m m' : Mem} {k : Nat} {x : yp_Rw} (h : yp_rowM B m k x) (hf : ∀ j, 4 * k ≤ j → j < 4 * k + 4 → m' (B + 530) j = m (B + 530) j) : yp_rowM B m' k x :=
  ⟨(hf _ (by omega) (by omega)).trans h.1, (hf _ (by omega) (by omega)).trans h.2.1, (hf _ (by omega) (by omega)).trans h.2.2.1, (hf _ (by omega) (by omega)).trans h.2.2.2⟩
def yp_KWc (B : Nat) (t : Nat → Nat) (n nf ng : Nat) (z : yp_WkT) (r : yp_WkR) (fc : Mem → Option (Int32 × Mem)) : Prop := ∀ m, yp_WC B m t n nf ng z → ∃ m', fc m = some (if r.1.1 = 0 then yp_N 1 else yp_N 0, m') ∧ yp_Fr (yp_TWc B z.2.1) m m' ∧ yp_FL B m' = yp_FLk r.1 ∧ (r.1.1 = 0 → yp_WC B m' t n nf ng r.2 ∧ ∀ k, z.2.1 ≤ k → k < r.2.2.1 → yp_rowC B m' k (r.2.2.2 k))
def yp_KWm (B : Nat) (t : Nat → Nat) (n nf ng o : Nat) (z : yp_WkT) (r : yp_WkR) (fm : Mem → Option Mem) : Prop := ∀ m, yp_WM B m t n nf ng z o → ∃ m', fm m = some m' ∧ yp_Fr (yp_TWm B z.2.1) m m' ∧ yp_RS B m' r.1 ∧ (r.1.1 = 0 → yp_WM B m' t n nf ng r.2 o ∧ ∀ k, z.2.1 ≤ k → k < r.2.2.1 → yp_rowM B m' k (r.2.2.2 k))
def yp_KSt (B : Nat) (t : Nat → Nat) (n nf ng o : Nat) (step : yp_WkT → Option yp_WkR) (fc : Mem → Option (Int32 × Mem)) (fm : Mem → Option Mem) : Prop := ∀ z : yp_WkT, z.1 ≤ n → 4 * z.2.1 ≤ z.1 → ∃ r, step z = some r ∧ yp_fok r.1 ∧ (r.1.1 = 0 → yp_PW n nf ng o z r.2 ∧ z.1 + 4 ≤ r.2.1) ∧ yp_KWc B t n nf ng z r fc ∧ yp_KWm B t n nf ng o z r fm
set_option maxHeartbeats 1000000 in
theorem yp_TWc_t {m m' : Mem} {l : Nat} (h : yp_Fr (yp_T35 B) m m') : yp_Fr (yp_TWc B l) m m' := h.mono (fun a j q => by unfold yp_T35 at q; unfold yp_TWc; omega)
set_option maxHeartbeats 1000000 in
theorem yp_TWm_t {m m' : Mem} {l : Nat} (h : yp_Fr (yp_T46 B) m m') : yp_Fr (yp_TWm B l) m m' := h.mono (fun a j q => by unfold yp_T46 at q; unfold yp_TWm; omega)
set_option maxHeartbeats 1000000 in
theorem yp_TWc_le {m m' : Mem} {l l' : Nat} (h : yp_Fr (yp_TWc B l') m m') (hl : l ≤ l') : yp_Fr (yp_TWc B l) m m' := h.mono (fun a j q => by unfold yp_TWc at q ⊢; omega)
set_option maxHeartbeats 1000000 in
theorem yp_TWm_le {m m' : Mem} {l l' : Nat} (h : yp_Fr (yp_TWm B l') m m') (hl : l ≤ l') : yp_Fr (yp_TWm B l) m m' := h.mono (fun a j q => by unfold yp_TWm at q ⊢; omega)
set_option maxHeartbeats 1000000 in
theorem yp_WC.mv {m m' : Mem} {z : yp_WkT} (h : yp_WC B m t n nf ng z) {q : Nat} (h1 : z.1 ≤ q) (hc : yp_CT B m' t n q) (hf : yp_FL B m' = (yp_N 0, -yp_N 1)) (hF : yp_Fr (yp_T35 B) m m') : yp_WC B m' t n nf ng (q, z.2) :=
  ⟨hc, hf, (hF _ _ (by unfold yp_T35; omega)).trans h.2.2.1, Nat.le_trans h.2.2.2.1 h1, (hF _ _ (by unfold yp_T35; omega)).trans h.2.2.2.2.1, (hF _ _ (by unfold yp_T35; omega)).trans h.2.2.2.2.2⟩
set_option maxHeartbeats 1000000 in
theorem yp_WC.at {m : Mem} {z : yp_WkT} (h : yp_WC B m t n nf ng z) {q : Nat} (h1 : z.1 ≤ q) (h2 : q ≤ n) : yp_WC B (yp_cAt B m q) t n nf ng (q, z.2) := h.mv h1 (h.1.at h2) (by rw [yp_FL_at]; exact h.2.1) (yp_Fr_at _)
set_option maxHeartbeats 1000000 in
theorem yp_WM.mv {m m' : Mem} {z : yp_WkT} {o : Nat} (h : yp_WM B m t n nf ng z o) {q : Nat} (h1 : z.1 ≤ q) (hc : yp_RT B m' t n q) (hf : m' (B + 517) 5 = -yp_N 1) (hF : yp_Fr (yp_T46 B) m m') : yp_WM B m' t n nf ng (q, z.2) o :=
  ⟨hc, hf, (hF _ _ (by unfold yp_T46; omega)).trans h.2.2.1, Nat.le_trans h.2.2.2.1 h1, ⟨(hF _ _ (by unfold yp_T46; omega)).trans h.2.2.2.2.1.1, (hF _ _ (by unfold yp_T46; omega)).trans h.2.2.2.2.1.2⟩, (hF _ _ (by unfold yp_T46; omega)).trans h.2.2.2.2.2⟩
set_option maxHeartbeats 1000000 in
theorem yp_WM.at {m : Mem} {z : yp_WkT} {o : Nat} (h : yp_WM B m t n nf ng z o) {q : Nat} (h1 : z.1 ≤ q) (h2 : q ≤ n) : yp_WM B (yp_rAt B m q) t n nf ng (q, z.2) o := h.mv h1 (h.1.at h2) ((yp_rAt_n _ (by omega)).trans h.2.1) (yp_Fr_rAt _)
set_option maxHeartbeats 1000000 in
theorem yp_st_pure {o : Nat} {step : yp_WkT → Option yp_WkR} (hn : n ≤ 150) (hU : ∀ z : yp_WkT, z.1 ≤ n → 4 * z.2.1 ≤ z.1 → ∃ r, step z = some r ∧ yp_fok r.1 ∧ (r.1.1 = 0 → yp_PW n nf ng o z r.2 ∧ z.1 + 4 ≤ r.2.1)) (z0 : yp_WkT) (h0 : z0.1 ≤ n) (h1 : 4 * z0.2.1 ≤ z0.1) : ∃ y, loopN (yp_stW t n o step) FU z0 = some y ∧ yp_fok y.1 ∧ (y.1.1 = 0 → yp_PW n nf ng o z0 y.2 ∧ yp_stp t n o y.2.1 = 0 ∧ yp_sk t n y.2.1 = y.2.1) := by
  refine yp_lpP (fun z : yp_WkT => yp_PW n nf ng o z0 z) (fun y : yp_WkR => yp_fok y.1 ∧ (y.1.1 = 0 → yp_PW n nf ng o z0 y.2 ∧ yp_stp t n o y.2.1 = 0 ∧ yp_sk t n y.2.1 = y.2.1)) (fun z => n + 2 - z.1) (fun z q => ?_) FU z0 (by rw [yp_FUe]; omega) (yp_PW.rf (z := z0) (Nat.le_refl _) h0)
  have hle : z.1 ≤ n := q.2.1
  have hs := yp_sk_ge t n z.1
  have hs2 := yp_sk_le (t := t) hle
  have q4 := q.2.2.2.1
  by_cases e2 : yp_stp t n o z.1 = 0
  · refine .inr ⟨_, yp_stW_a e2, ⟨Nat.zero_le 3, Nat.zero_le 600⟩, fun _ => ⟨q.tr (yp_PW.rf (z := z) hs hs2), ?_, yp_sk_fix⟩⟩
    show yp_stp t n o (yp_sk t n z.1) = 0
    unfold yp_stp yp_sgk at e2 ⊢
    rw [yp_sk_fix]
    exact e2
  · obtain ⟨r', yp_b1, b2, b3⟩ := hU (yp_sk t n z.1, z.2) hs2 (by show 4 * z.2.1 ≤ yp_sk t n z.1; omega)
    by_cases e3 : r'.1.1 = 0
    · have b4 : yp_sk t n z.1 + 4 ≤ r'.2.1 := (b3 e3).2
      have b5 := (b3 e3).1.2.1
      exact .inl ⟨_, yp_stW_b e2 yp_b1 e3, q.tr ((b3 e3).1.st hs), by show n + 2 - r'.2.1 < n + 2 - z.1; omega⟩
    · exact .inr ⟨_, yp_stW_c e2 yp_b1 e3, b2, fun k => absurd k e3⟩
set_option maxHeartbeats 1000000 in
theorem yp_st_c {o : Nat} {step : yp_WkT → Option yp_WkR} {fc : Mem → Option (Int32 × Mem)} {cs : Int32 × Mem → Option ((Int32 × Mem) ⊕ (Mem ⊕ (Mem ⊕ (Mem ⊕ Mem))))} (hn : n ≤ 150) (hU : ∀ z : yp_WkT, z.1 ≤ n → 4 * z.2.1 ≤ z.1 → ∃ r, step z = some r ∧ yp_fok r.1 ∧ (r.1.1 = 0 → yp_PW n nf ng o z r.2 ∧ z.1 + 4 ≤ r.2.1) ∧ yp_KWc B t n nf ng z r fc)
    (hc1 : ∀ i m z, i < 150 → yp_WC B m t n nf ng z → yp_stp t n o z.1 = 0 → ∃ x, cs (yp_N i, m) = some (.inr x) ∧ (x = .inl (yp_cAt B m (yp_sk t n z.1)) ∨ x = .inr (.inl (yp_cAt B m (yp_sk t n z.1)))))
    (hc2 : ∀ i m z, i < 150 → yp_WC B m t n nf ng z → ¬ yp_stp t n o z.1 = 0 → ∀ m1, (fc (yp_cAt B m (yp_sk t n z.1)) = some (yp_N 0, m1) → cs (yp_N i, m) = some (.inr (.inr (.inr (.inl m1))))) ∧ (fc (yp_cAt B m (yp_sk t n z.1)) = some (yp_N 1, m1) → cs (yp_N i, m) = some (.inl (yp_N (i + 1), m1))))
    (z0 : yp_WkT) (yp_m0 : Mem) (h1 : yp_WC B yp_m0 t n nf ng z0) : ∃ x y, loopN cs FU (yp_N 0, yp_m0) = some x ∧ loopN (yp_stW t n o step) FU z0 = some y ∧ ((y.1.1 = 0 ∧ ∃ m', (x = .inl m' ∨ x = .inr (.inl m')) ∧ yp_WC B m' t n nf ng y.2 ∧ yp_Fr (yp_TWc B z0.2.1) yp_m0 m' ∧ ∀ k, z0.2.1 ≤ k → k < y.2.2.1 → yp_rowC B m' k (y.2.2.2 k)) ∨ (y.1.1 ≠ 0 ∧ ∃ m', x = .inr (.inr (.inl m')) ∧ yp_FL B m' = yp_FLk y.1 ∧ yp_Fr (yp_TWc B z0.2.1) yp_m0 m')) := by
  refine yp_lpSim (step := cs) (ps := yp_stW t n o step) (fun s z => ∃ i m', s = (yp_N i, m') ∧ 4 * i ≤ z.1 ∧ yp_Fr (yp_TWc B z0.2.1) yp_m0 m' ∧ yp_WC B m' t n nf ng z ∧ z0.2.1 ≤ z.2.1 ∧ ∀ k, z0.2.1 ≤ k → k < z.2.1 → yp_rowC B m' k (z.2.2 k)) _ (fun z => n + 2 - z.1) (fun s z hR => ?_) FU (yp_N 0, yp_m0) z0 (by rw [yp_FUe]; omega) ⟨0, yp_m0, rfl, Nat.zero_le _, yp_Fr.rf, h1, Nat.le_refl _, fun k k1 k2 => absurd k2 (by omega)⟩
  obtain ⟨i, m', rfl, i1, i2, i3, i5, i4⟩ := hR
  have hle : z.1 ≤ n := i3.1.2.2.1
  have hs := yp_sk_ge t n z.1
  have hs2 := yp_sk_le (t := t) hle
  have q4 := i3.2.2.2.1
  by_cases e2 : yp_stp t n o z.1 = 0
  · obtain ⟨x, x1, x2⟩ := hc1 i m' z (by omega) i3 e2
    exact .inr ⟨_, _, x1, yp_stW_a e2, .inl ⟨rfl, _, x2, i3.at hs hs2, i2.tr (yp_TWc_t (yp_Fr_at _)), fun k k1 k2 => (i4 k k1 k2).fr (fun a a1 a2 => yp_cAt_n _ (by omega))⟩⟩
  · obtain ⟨r', yp_b1, b2, b3, b4⟩ := hU (yp_sk t n z.1, z.2) hs2 (by show 4 * z.2.1 ≤ yp_sk t n z.1; omega)
    obtain ⟨m1, d1, d2, d3, d4⟩ := b4 _ (i3.at hs hs2)
    have d2 : yp_Fr (yp_TWc B z.2.1) (yp_cAt B m' (yp_sk t n z.1)) m1 := d2
    have F1 : yp_Fr (yp_TWc B z0.2.1) yp_m0 m1 := (i2.tr (yp_TWc_t (yp_Fr_at _))).tr (yp_TWc_le d2 i5)
    have q := hc2 i m' z (by omega) i3 e2 m1
    by_cases e3 : r'.1.1 = 0
    · rw [if_pos e3] at d1
      have b5 : yp_sk t n z.1 + 4 ≤ r'.2.1 := (b3 e3).2
      have b6 := (b3 e3).1.2.1
      have b7 : z.2.1 ≤ r'.2.2.1 := (b3 e3).1.2.2.1
      have b8 : ∀ k, k < z.2.1 → r'.2.2.2 k = z.2.2 k := (b3 e3).1.2.2.2.2.1
      obtain ⟨d5, d6⟩ := d4 e3
      refine .inl ⟨_, _, q.2 d1, yp_stW_b e2 yp_b1 e3, ⟨i + 1, m1, rfl, by omega, F1, d5, by omega, fun k k1 k2 => ?_⟩, by show n + 2 - r'.2.1 < n + 2 - z.1; omega⟩
      by_cases e4 : k < z.2.1
      · rw [b8 k e4]
        exact (i4 k k1 e4).fr (fun a a1 a2 => by rw [d2 a k (by unfold yp_TWc; omega), yp_cAt_n _ (by omega)])
      · exact d6 k (by show z.2.1 ≤ k; omega) k2
    · rw [if_neg e3] at d1
      exact .inr ⟨_, _, q.1 d1, yp_stW_c e2 yp_b1 e3, .inr ⟨e3, m1, rfl, d3, F1⟩⟩
set_option maxHeartbeats 1000000 in
theorem yp_st_m {o : Nat} {step : yp_WkT → Option yp_WkR} {fm : Mem → Option Mem} {ms : Mem → Option (Mem ⊕ Mem)} (hn : n ≤ 150) (hU : ∀ z : yp_WkT, z.1 ≤ n → 4 * z.2.1 ≤ z.1 → ∃ r, step z = some r ∧ yp_fok r.1 ∧ (r.1.1 = 0 → yp_PW n nf ng o z r.2 ∧ z.1 + 4 ≤ r.2.1) ∧ yp_KWm B t n nf ng o z r fm)
    (hm0 : ∀ m, ¬ m (B + 517) 5 = -yp_N 1 → ms m = some (.inr m))
    (hm1 : ∀ m z, yp_WM B m t n nf ng z o → yp_stp t n o z.1 = 0 → ms m = some (.inr (yp_rAt B m (yp_sk t n z.1))))
    (hm2 : ∀ m z, yp_WM B m t n nf ng z o → ¬ yp_stp t n o z.1 = 0 → ∀ m1, fm (yp_rAt B m (yp_sk t n z.1)) = some m1 → ms m = some (.inl m1))
    (z0 : yp_WkT) (yp_m0 : Mem) (h1 : yp_WM B yp_m0 t n nf ng z0 o) : ∃ x y, loopN ms FU yp_m0 = some x ∧ loopN (yp_stW t n o step) FU z0 = some y ∧ yp_RS B x y.1 ∧ yp_Fr (yp_TWm B z0.2.1) yp_m0 x ∧ (y.1.1 = 0 → yp_WM B x t n nf ng y.2 o ∧ ∀ k, z0.2.1 ≤ k → k < y.2.2.1 → yp_rowM B x k (y.2.2.2 k)) := by
  refine yp_lpSim2 (step := ms) (ps := yp_stW t n o step) (fun s z => yp_Fr (yp_TWm B z0.2.1) yp_m0 s ∧ yp_WM B s t n nf ng z o ∧ z0.2.1 ≤ z.2.1 ∧ ∀ k, z0.2.1 ≤ k → k < z.2.1 → yp_rowM B s k (z.2.2 k)) (fun x y => yp_RS B x y.1 ∧ yp_Fr (yp_TWm B z0.2.1) yp_m0 x ∧ (y.1.1 = 0 → yp_WM B x t n nf ng y.2 o ∧ ∀ k, z0.2.1 ≤ k → k < y.2.2.1 → yp_rowM B x k (y.2.2.2 k))) (fun z => n + 2 - z.1) (fun s z hR => ?_) 7999 yp_m0 z0 (by omega) ⟨yp_Fr.rf, h1, Nat.le_refl _, fun k k1 k2 => absurd k2 (by omega)⟩
  obtain ⟨i2, i3, i5, i4⟩ := hR
  have hle : z.1 ≤ n := i3.1.2.2.1
  have hs := yp_sk_ge t n z.1
  have hs2 := yp_sk_le (t := t) hle
  have q4 := i3.2.2.2.1
  by_cases e2 : yp_stp t n o z.1 = 0
  · have g := i3.at hs hs2
    exact .inr (.inl ⟨_, _, hm1 s z i3 e2, yp_stW_a e2, ⟨⟨Nat.zero_le 3, Nat.zero_le 600⟩, .inl ⟨rfl, g.2.1⟩⟩, i2.tr (yp_TWm_t (yp_Fr_rAt _)), fun _ => ⟨g, fun k k1 k2 => (i4 k k1 k2).fr (fun j j1 j2 => yp_rAt_n _ (by omega))⟩⟩)
  · obtain ⟨r', yp_b1, b2, b3, b4⟩ := hU (yp_sk t n z.1, z.2) hs2 (by show 4 * z.2.1 ≤ yp_sk t n z.1; omega)
    obtain ⟨m1, d1, d2, d3, d4⟩ := b4 _ (i3.at hs hs2)
    have d2 : yp_Fr (yp_TWm B z.2.1) (yp_rAt B s (yp_sk t n z.1)) m1 := d2
    have F1 : yp_Fr (yp_TWm B z0.2.1) yp_m0 m1 := (i2.tr (yp_TWm_t (yp_Fr_rAt _))).tr (yp_TWm_le d2 i5)
    have q := hm2 s z i3 e2 m1 d1
    by_cases e3 : r'.1.1 = 0
    · have b5 : yp_sk t n z.1 + 4 ≤ r'.2.1 := (b3 e3).2
      have b6 := (b3 e3).1.2.1
      have b7 : z.2.1 ≤ r'.2.2.1 := (b3 e3).1.2.2.1
      have b8 : ∀ k, k < z.2.1 → r'.2.2.2 k = z.2.2 k := (b3 e3).1.2.2.2.2.1
      obtain ⟨d5, d6⟩ := d4 e3
      refine .inl ⟨_, _, q, yp_stW_b e2 yp_b1 e3, ⟨F1, d5, by omega, fun k k1 k2 => ?_⟩, by show n + 2 - r'.2.1 < n + 2 - z.1; omega⟩
      by_cases e4 : k < z.2.1
      · rw [b8 k e4]
        exact (i4 k k1 e4).fr (fun j j1 j2 => by rw [d2 _ j (by unfold yp_TWm; omega), yp_rAt_n _ (by omega)])
      · exact d6 k (by show z.2.1 ≤ k; omega) k2
    · exact .inr (.inr ⟨_, _, _, q, hm0 m1 (d3.bad e3), yp_stW_c e2 yp_b1 e3, d3, F1, fun k => absurd k e3⟩)
end WORKR

section BOOKC
variable {B : Nat} {m : Mem} {t : Nat → Nat} {n p : Nat}
def yp_FL (B : Nat) (m : Mem) : Int32 × Int32 := (m (B + 1) 4, m (B + 1) 5)
def yp_ff (a : Int32 × Int32) (k x : Nat) : Int32 × Int32 := if a.1 = yp_N 0 then (yp_N k, yp_N x) else a
def yp_T35 (B : Nat) : Nat → Nat → Prop := fun a j => a = B + 1 ∧ (j = 3 ∨ j = 4 ∨ j = 5)
set_option maxHeartbeats 1000000 in
theorem yp_FL_at (q : Nat) : yp_FL B (yp_cAt B m q) = yp_FL B m := by
  unfold yp_FL
  rw [(yp_cAt_4 (B := B) (m := m) q).1, (yp_cAt_4 (B := B) (m := m) q).2]
set_option maxHeartbeats 1000000 in
theorem yp_FL_f (k x : Nat) : yp_FL B (yp_cF B m k x) = yp_ff (yp_FL B m) k x := by
  unfold yp_ff
  by_cases e : (yp_FL B m).1 = yp_N 0
  · rw [if_pos e]
    unfold yp_FL
    rw [(yp_cF_1 (B := B) (m := m) (k := k) (x := x) e).1, (yp_cF_1 (B := B) (m := m) (k := k) (x := x) e).2]
  · rw [if_neg e, yp_cF_0 e]
set_option maxHeartbeats 1000000 in
theorem yp_FL_fr {m' : Mem} (h : ∀ j, j = 4 ∨ j = 5 → m' (B + 1) j = m (B + 1) j) : yp_FL B m' = yp_FL B m := by
  unfold yp_FL
  rw [h 4 (by omega), h 5 (by omega)]
set_option maxHeartbeats 1000000 in
theorem yp_Fr_at (q : Nat) : yp_Fr (yp_T35 B) m (yp_cAt B m q) := fun a j h => yp_cAt_n q (by unfold yp_T35 at h; omega)
set_option maxHeartbeats 1000000 in
theorem yp_Fr_cF (k x : Nat) : yp_Fr (yp_T35 B) m (yp_cF B m k x) := fun a j h => yp_cF_n k x (by unfold yp_T35 at h; omega)
set_option maxHeartbeats 1000000 in
theorem yp_ff0 {a : Int32 × Int32} (h : a.1 = yp_N 0) (k x : Nat) : yp_ff a k x = (yp_N k, yp_N x) := by unfold yp_ff; exact if_pos h
set_option maxHeartbeats 1000000 in
theorem yp_ffk {k x k' x' : Nat} (h1 : 1 ≤ k) (h2 : k ≤ 3) : yp_ff (yp_N k, yp_N x) k' x' = (yp_N k, yp_N x) := by
  unfold yp_ff
  have e : ¬ yp_N k = yp_N 0 := by rw [yp_eqN (by omega) (by omega)]; omega
  exact if_neg e
set_option maxHeartbeats 1000000 in
theorem yp_c_num (h : yp_CT B m t n p) (lo hi : Nat) (x2 : Int32) (hx : x2.toInt = (hi : Int) - 1) (hlo : lo ≤ 1000) (hhi : hi ≤ 1000) : ∃ v m', fX8_number (yp_SH B) (B + 1) (yp_N lo) x2 m = some (v, m') ∧ yp_CT B m' t n (yp_nE t n p) ∧ yp_Fr (yp_T35 B) m m' ∧ (yp_nK t n lo hi p = 0 → v = yp_N (yp_nV t n p) ∧ yp_FL B m' = yp_FL B m) ∧ (yp_nK t n lo hi p ≠ 0 → v = -yp_N 1 ∧ yp_FL B m' = yp_ff (yp_FL B m) (yp_nK t n lo hi p) (yp_sk t n p)) := by
  have e := yp_c_number h lo hi x2 hx hlo hhi
  have g := h.at (yp_nE_le (t := t) h.2.2.1)
  by_cases k : yp_nK t n lo hi p = 0
  · rw [if_pos k, if_pos k] at e
    exact ⟨_, _, e, g, yp_Fr_at _, fun _ => ⟨rfl, yp_FL_at _⟩, fun q => absurd k q⟩
  · rw [if_neg k, if_neg k] at e
    exact ⟨_, _, e, g.fl _ _, (yp_Fr_at _).tr (yp_Fr_cF _ _), fun q => absurd q k, fun _ => ⟨rfl, by rw [yp_FL_f, yp_FL_at]⟩⟩
def yp_sg (t : Nat → Nat) (n p c : Nat) : Prop := yp_sk t n p < n ∧ t (yp_sk t n p) = c
set_option maxHeartbeats 1000000 in
theorem yp_c_wan (h : yp_CT B m t n p) (c : Nat) (hc : c < 256) : ∃ v m', fX8_wants (yp_SH B) (B + 1) (yp_N c) m = some (v, m') ∧ yp_Fr (yp_T35 B) m m' ∧ (yp_sg t n p c → v = yp_N 1 ∧ yp_CT B m' t n (yp_sk t n p + 1) ∧ yp_FL B m' = yp_FL B m) ∧ (¬ yp_sg t n p c → v = yp_N 0 ∧ yp_CT B m' t n (yp_sk t n p) ∧ yp_FL B m' = yp_ff (yp_FL B m) 1 (yp_sk t n p)) := by
  by_cases e : yp_sg t n p c
  · exact ⟨_, _, yp_c_wants1 h c hc e, yp_Fr_at _, fun _ => ⟨rfl, h.at e.1, yp_FL_at _⟩, fun q => absurd e q⟩
  · exact ⟨_, _, yp_c_wants0 h c hc e, (yp_Fr_at _).tr (yp_Fr_cF _ _), fun q => absurd q e, fun _ => ⟨rfl, (h.at (yp_sk_le (t := t) h.2.2.1)).fl _ _, by rw [yp_FL_f, yp_FL_at]⟩⟩
def yp_ln (t : Nat → Nat) (n w p i : Nat) : Nat × Nat × Nat :=
  if yp_nK t n 0 w p = 0 then (if i < 8 then (if yp_nK t n 0 401 (yp_nE t n p) = 0 then (if yp_sk t n (yp_nE t n (yp_nE t n p)) < n ∧ t (yp_sk t n (yp_nE t n (yp_nE t n p))) = 59 then (0, 0, yp_sk t n (yp_nE t n (yp_nE t n p)) + 1) else (1, yp_sk t n (yp_nE t n (yp_nE t n p)), 0)) else (yp_nK t n 0 401 (yp_nE t n p), yp_sk t n (yp_nE t n p), 0)) else (3, yp_sk t n p, 0)) else (yp_nK t n 0 w p, yp_sk t n p, 0)
def yp_TBk (B : Nat) : Nat → Nat → Prop := fun a j => (a = B + 1 ∧ (j = 3 ∨ j = 4 ∨ j = 5)) ∨ (a = B + 20 ∧ j = 2) ∨ a = B + 21 ∨ a = B + 22
set_option maxHeartbeats 1000000 in
theorem yp_bspS (B : Nat) : rR (yp_SH B) 0 (B + 20) 0 = some (B + 21) ∧ rR (yp_SH B) 0 (B + 20) 1 = some (B + 22) ∧ isO (yp_SH B) 0 (B + 20) = some () ∧ (∀ mm k, rI (yp_SH B) mm 0 (B + 20) k = some (mm (B + 20) k)) ∧ (∀ mm k v, wI (yp_SH B) mm 0 (B + 20) k v = some (up2 mm (B + 20) k v)) ∧ (∀ mm k v, k < 8 → aS (yp_SH B) mm (B + 21) (yp_N k) v = some (up2 mm (B + 21) k v)) ∧ (∀ mm k v, k < 8 → aS (yp_SH B) mm (B + 22) (yp_N k) v = some (up2 mm (B + 22) k v)) ∧ (∀ mm k v, wI (yp_SH B) mm 0 (B + 17) k v = some (up2 mm (B + 17) k v)) := by
  refine ⟨?_, ?_, ?_, ?_, ?_, fun mm k v h => yp_aSN (yp_sa21 B) mm k v h (by omega), fun mm k v h => yp_aSN (yp_sa22 B) mm k v h (by omega), ?_⟩
  · rw [rR, yp_so20]; rfl
  · rw [rR, yp_so20]; rfl
  · rw [isO, yp_so20]; rfl
  · intro mm k; rw [rI, yp_so20]; rfl
  · intro mm k v; rw [wI, yp_so20]; rfl
  · intro mm k v; rw [wI, yp_so17]; rfl
set_option maxHeartbeats 1000000 in
theorem yp_T35_bk {m' : Mem} (h : yp_Fr (yp_T35 B) m m') : yp_Fr (yp_TBk B) m m' := h.mono (fun a j q => by unfold yp_T35 at q; unfold yp_TBk; omega)
set_option maxHeartbeats 1000000 in
theorem yp_c_line (h : yp_CT B m t n p) (hf : yp_FL B m = (yp_N 0, -yp_N 1)) (w i : Nat) (hw1 : 1 ≤ w) (hw : w ≤ 99) (hi : i ≤ 8) (h2 : m (B + 20) 2 = yp_N i) : ∃ m', fX0_readLine (yp_SH B) (B + 20) (B + 1) (yp_N w) m = some m' ∧ yp_Fr (yp_TBk B) m m' ∧ ((yp_ln t n w p i).1 = 0 → yp_CT B m' t n (yp_ln t n w p i).2.2 ∧ yp_FL B m' = (yp_N 0, -yp_N 1) ∧ m' (B + 20) 2 = yp_N (i + 1) ∧ (∀ l, l < i → m' (B + 21) l = m (B + 21) l ∧ m' (B + 22) l = m (B + 22) l) ∧ m' (B + 21) i = yp_N (yp_nV t n p) ∧ m' (B + 22) i = yp_N (yp_nV t n (yp_nE t n p))) ∧ ((yp_ln t n w p i).1 ≠ 0 → yp_FL B m' = (yp_N (yp_ln t n w p i).1, yp_N (yp_ln t n w p i).2.1)) := by
  have hT := yp_tapS B
  have hS := yp_bspS B
  have e0 := yp_c_next h
  have hq := h.at (yp_sk_le (t := t) h.2.2.1)
  obtain ⟨v4, m5, a1, a2, a3, a4, a5⟩ := yp_c_num hq 0 w (yp_N w - yp_N 1) (by rw [yp_nS hw1, yp_tiN (by omega)]; omega) (by omega) (by omega)
  rw [yp_nE_sk] at a2
  rw [yp_nK_sk, yp_nV_sk, yp_FL_at, hf] at a4
  rw [yp_nK_sk, yp_FL_at, hf, yp_sk_fix, yp_ff0 rfl] at a5
  have a3 := (yp_Fr_at (B := B) (m := m) (yp_sk t n p)).tr a3
  have yp_b1 : m5 (B + 20) 2 = yp_N i := (a3 _ _ (by unfold yp_T35; omega)).trans h2
  have kl := yp_nK_le t n 0 w p
  have kl2 := yp_nK_le t n 0 401 (yp_nE t n p)
  unfold yp_ln
  by_cases hi8 : i < 8
  · obtain ⟨m11, hm11⟩ : ∃ m11, m11 = up2 m5 (B + 21) i v4 := ⟨_, rfl⟩
    have c11 : yp_CT B m11 t n (yp_nE t n p) := a2.fr (fun a j q => by rw [hm11, yp_up2_n _ _ (by omega)])
    have f11 : yp_FL B m11 = yp_FL B m5 := yp_FL_fr (fun j q => by rw [hm11, yp_up2_n _ _ (by omega)])
    have b2 : m11 (B + 20) 2 = yp_N i := by rw [hm11, yp_up2_n _ _ (by omega)]; exact yp_b1
    obtain ⟨v14, m15, d1, d2, d3, d4, d5⟩ := yp_c_num c11 0 401 (yp_N 400) (by rw [yp_tiN (by omega)]; omega) (by omega) (by omega)
    obtain ⟨m16, hm16⟩ : ∃ m16, m16 = up2 m15 (B + 22) i v14 := ⟨_, rfl⟩
    have b3 : m16 (B + 20) 2 = yp_N i := by rw [hm16, yp_up2_n _ _ (by omega)]; exact (d3 _ _ (by unfold yp_T35; omega)).trans b2
    obtain ⟨m18, hm18⟩ : ∃ m18, m18 = up2 m16 (B + 20) 2 (yp_N (i + 1)) := ⟨_, rfl⟩
    have g18 : ∀ a j, a ≠ B + 20 → a ≠ B + 22 → m18 a j = m15 a j := fun a j q1 q2 => by rw [hm18, yp_up2_n _ _ (by omega), hm16, yp_up2_n _ _ (by omega)]
    have c18 : yp_CT B m18 t n (yp_nE t n (yp_nE t n p)) := d2.fr (fun a j q => g18 a j (by omega) (by omega))
    have f18 : yp_FL B m18 = yp_FL B m15 := yp_FL_fr (fun j q => g18 _ j (by omega) (by omega))
    obtain ⟨v19, m20, j1, j2, j3, j4⟩ := yp_c_wan c18 59 (by omega)
    have F : yp_Fr (yp_TBk B) m m20 := by
      refine ((((yp_T35_bk a3).tr ?_).tr (yp_T35_bk d3)).tr ?_).tr (yp_T35_bk j2)
      · rw [hm11]; exact yp_Fr.rf.up (by unfold yp_TBk; omega)
      · rw [hm18, hm16]; exact (yp_Fr.rf.up (by unfold yp_TBk; omega)).up (by unfold yp_TBk; omega)
    refine ⟨m20, ?_, F, ?_⟩
    · simp (disch := omega) only [fX0_readLine, hT, hS, e0, a1, yp_b1, ← hm11, b2, d1, ← hm16, b3, ← hm18, j1, Nat.reduceAdd, Nat.reduceMul, Nat.reduceSub, Nat.zero_add, Nat.add_zero, yp_LT, yp_nA, yp_nM, yp_ltF, yp_ltT, yp_leF, yp_leT, yp_eqF, eq_self, yp_eqM, yp_lt1N, yp_sbN, yp_sb2N, ↓reduceIte, ↓yp_iP11, ↓yp_iP12, ↓yp_m0P]
    · rw [if_pos hi8]
      by_cases k1 : yp_nK t n 0 w p = 0
      · rw [if_pos k1]
        obtain ⟨rfl, a6⟩ := a4 k1
        rw [a6] at f11
        by_cases k2 : yp_nK t n 0 401 (yp_nE t n p) = 0
        · rw [if_pos k2]
          obtain ⟨rfl, d6⟩ := d4 k2
          rw [d6, f11] at f18
          by_cases k3 : yp_sk t n (yp_nE t n (yp_nE t n p)) < n ∧ t (yp_sk t n (yp_nE t n (yp_nE t n p))) = 59
          · rw [if_pos k3]
            obtain ⟨_, j5, j6⟩ := j3 k3
            rw [f18] at j6
            refine ⟨fun _ => ⟨j5, j6, ?_, fun l hl => ⟨?_, ?_⟩, ?_, ?_⟩, fun q => absurd rfl q⟩
            · rw [j2 _ _ (by unfold yp_T35; omega), hm18, yp_up2_s]
            · rw [j2 _ _ (by unfold yp_T35; omega), g18 _ _ (by omega) (by omega), d3 _ _ (by unfold yp_T35; omega), hm11, yp_up2_n _ _ (by omega), a3 _ _ (by unfold yp_T35; omega)]
            · rw [j2 _ _ (by unfold yp_T35; omega), hm18, yp_up2_n _ _ (by omega), hm16, yp_up2_n _ _ (by omega), d3 _ _ (by unfold yp_T35; omega), hm11, yp_up2_n _ _ (by omega), a3 _ _ (by unfold yp_T35; omega)]
            · rw [j2 _ _ (by unfold yp_T35; omega), g18 _ _ (by omega) (by omega), d3 _ _ (by unfold yp_T35; omega), hm11, yp_up2_s]
            · rw [j2 _ _ (by unfold yp_T35; omega), hm18, yp_up2_n _ _ (by omega), hm16, yp_up2_s]
          · rw [if_neg k3]
            obtain ⟨_, j5, j6⟩ := j4 k3
            rw [f18, yp_ff0 rfl] at j6
            exact ⟨fun q => absurd q (show ¬ (1 : Nat) = 0 by decide), fun _ => j6⟩
        · rw [if_neg k2]
          obtain ⟨_, d6⟩ := d5 k2
          rw [f11, yp_ff0 rfl] at d6
          rw [d6] at f18
          refine ⟨fun q => absurd q k2, fun _ => ?_⟩
          by_cases k3 : yp_sg t n (yp_nE t n (yp_nE t n p)) 59
          · rw [(j3 k3).2.2, f18]
          · rw [(j4 k3).2.2, f18, yp_ffk (by omega) (by omega)]
      · rw [if_neg k1]
        obtain ⟨_, a6⟩ := a5 k1
        rw [a6] at f11
        refine ⟨fun q => absurd q k1, fun _ => ?_⟩
        have f15 : yp_FL B m15 = (yp_N (yp_nK t n 0 w p), yp_N (yp_sk t n p)) := by
          by_cases k2 : yp_nK t n 0 401 (yp_nE t n p) = 0
          · rw [(d4 k2).2, f11]
          · rw [(d5 k2).2, f11, yp_ffk (by omega) (by omega)]
        rw [f15] at f18
        by_cases k3 : yp_sg t n (yp_nE t n (yp_nE t n p)) 59
        · rw [(j3 k3).2.2, f18]
        · rw [(j4 k3).2.2, f18, yp_ffk (by omega) (by omega)]
  · have : i = 8 := by omega
    subst this
    have e1 := yp_c_fail B m5 3 (yp_sk t n p)
    refine ⟨yp_cF B m5 3 (yp_sk t n p), ?_, yp_T35_bk (a3.tr (yp_Fr_cF _ _)), ?_⟩
    · simp (disch := omega) only [fX0_readLine, hT, hS, e0, a1, yp_b1, e1, Nat.reduceAdd, Nat.reduceMul, Nat.reduceSub, Nat.zero_add, Nat.add_zero, yp_LT, yp_nA, yp_nM, yp_ltF, yp_ltT, yp_leF, yp_leT, yp_eqF, eq_self, yp_eqM, yp_lt1N, yp_sbN, yp_sb2N, ↓reduceIte, ↓yp_iP11, ↓yp_iP12, ↓yp_m0P]
    · rw [if_neg (show ¬ 8 < 8 by omega), yp_FL_f]
      by_cases k1 : yp_nK t n 0 w p = 0
      · rw [if_pos k1, (a4 k1).2, yp_ff0 rfl]
        exact ⟨fun q => absurd q (show ¬ (3 : Nat) = 0 by decide), fun _ => rfl⟩
      · rw [if_neg k1, (a5 k1).2, yp_ffk (by omega) (by omega)]
        exact ⟨fun q => absurd q k1, fun _ => rfl⟩
abbrev yp_BkT : Type := Nat × Nat × (Nat → Nat × Nat)
def yp_bkS (t : Nat → Nat) (n w : Nat) (z : yp_BkT) : yp_BkT ⊕ (Nat × Nat × yp_BkT) :=
  if yp_sk t n z.1 < n then (if (yp_ln t n w z.1 z.2.1).1 = 0 then .inl ((yp_ln t n w z.1 z.2.1).2.2, z.2.1 + 1, fun l => if l = z.2.1 then (yp_nV t n z.1, yp_nV t n (yp_nE t n z.1)) else z.2.2 l) else .inr ((yp_ln t n w z.1 z.2.1).1, (yp_ln t n w z.1 z.2.1).2.1, z)) else .inr (0, 0, z)
set_option maxHeartbeats 1000000 in
theorem yp_ln_sk {w i : Nat} : yp_ln t n w (yp_sk t n p) i = yp_ln t n w p i := by
  unfold yp_ln
  rw [yp_nK_sk, yp_nE_sk, yp_sk_fix]
set_option maxHeartbeats 1000000 in
theorem yp_ln_ok {w i : Nat} (h : (yp_ln t n w p i).1 = 0) : yp_nK t n 0 w p = 0 ∧ i < 8 ∧ yp_nK t n 0 401 (yp_nE t n p) = 0 ∧ (yp_sk t n (yp_nE t n (yp_nE t n p)) < n ∧ t (yp_sk t n (yp_nE t n (yp_nE t n p))) = 59) ∧ (yp_ln t n w p i).2.2 = yp_sk t n (yp_nE t n (yp_nE t n p)) + 1 := by
  unfold yp_ln at h ⊢
  by_cases k1 : yp_nK t n 0 w p = 0
  · rw [if_pos k1] at h ⊢
    by_cases k2 : i < 8
    · rw [if_pos k2] at h ⊢
      by_cases k3 : yp_nK t n 0 401 (yp_nE t n p) = 0
      · rw [if_pos k3] at h ⊢
        by_cases k4 : yp_sk t n (yp_nE t n (yp_nE t n p)) < n ∧ t (yp_sk t n (yp_nE t n (yp_nE t n p))) = 59
        · rw [if_pos k4]; exact ⟨k1, k2, k3, k4, rfl⟩
        · rw [if_neg k4] at h; exact absurd h (show ¬ (1 : Nat) = 0 by decide)
      · rw [if_neg k3] at h; exact absurd h k3
    · rw [if_neg k2] at h; exact absurd h (show ¬ (3 : Nat) = 0 by decide)
  · rw [if_neg k1] at h; exact absurd h k1
set_option maxHeartbeats 1000000 in
theorem yp_ln_le (w i : Nat) : (yp_ln t n w p i).1 ≤ 3 := by
  have a := yp_nK_le t n 0 w p
  have b := yp_nK_le t n 0 401 (yp_nE t n p)
  unfold yp_ln
  by_cases k1 : yp_nK t n 0 w p = 0
  · rw [if_pos k1]
    by_cases k2 : i < 8
    · rw [if_pos k2]
      by_cases k3 : yp_nK t n 0 401 (yp_nE t n p) = 0
      · rw [if_pos k3]
        by_cases k4 : yp_sk t n (yp_nE t n (yp_nE t n p)) < n ∧ t (yp_sk t n (yp_nE t n (yp_nE t n p))) = 59
        · rw [if_pos k4]; exact Nat.zero_le 3
        · rw [if_neg k4]; exact (by decide : 1 ≤ 3)
      · rw [if_neg k3]; show yp_nK t n 0 401 (yp_nE t n p) ≤ 3; omega
    · rw [if_neg k2]; exact Nat.le_refl 3
  · rw [if_neg k1]; show yp_nK t n 0 w p ≤ 3; omega
set_option maxHeartbeats 1000000 in
theorem yp_ln_gt {w i : Nat} (hp : p ≤ n) (h : (yp_ln t n w p i).1 = 0) : p < (yp_ln t n w p i).2.2 ∧ (yp_ln t n w p i).2.2 ≤ n := by
  obtain ⟨k1, k2, k3, k4, k5⟩ := yp_ln_ok h
  have a := yp_sk_ge t n p
  have b := yp_nE_ge t n p
  have c := yp_sk_ge t n (yp_nE t n p)
  have d := yp_nE_ge t n (yp_nE t n p)
  have e := yp_sk_ge t n (yp_nE t n (yp_nE t n p))
  omega
def yp_bkC (B : Nat) (mm : Mem) (x : Mem ⊕ Mem) (y : Nat × Nat × yp_BkT) : Prop := y.1 ≤ 3 ∧ ((y.1 = 0 ∧ ∃ m, x = .inr m ∧ yp_Fr (yp_TBk B) mm m ∧ yp_FL B m = (yp_N 0, -yp_N 1) ∧ m (B + 20) 2 = yp_N y.2.2.2.1 ∧ y.2.2.2.1 ≤ 8 ∧ ∀ l, l < y.2.2.2.1 → m (B + 21) l = yp_N (y.2.2.2.2 l).1 ∧ m (B + 22) l = yp_N (y.2.2.2.2 l).2) ∨ (y.1 ≠ 0 ∧ y.2.1 ≤ 600 ∧ ∃ m, x = .inl m ∧ yp_Fr (yp_TBk B) mm m ∧ yp_FL B m = (yp_N y.1, yp_N y.2.1)))
def yp_bkW (w : Nat) (z : yp_BkT) : Prop := ∀ l, l < z.2.1 → (z.2.2 l).1 < w
set_option maxHeartbeats 1000000 in
theorem yp_ln_x {w i : Nat} (hp : p ≤ n) (hn : n ≤ 600) (h : (yp_ln t n w p i).1 ≠ 0) : (yp_ln t n w p i).2.1 ≤ 600 := by
  have a := yp_sk_le (t := t) hp
  have b := yp_nE_le (t := t) hp
  have c := yp_sk_le (t := t) b
  have d := yp_nE_le (t := t) b
  have e := yp_sk_le (t := t) d
  unfold yp_ln at h ⊢
  by_cases k1 : yp_nK t n 0 w p = 0
  · rw [if_pos k1] at h ⊢
    by_cases k2 : i < 8
    · rw [if_pos k2] at h ⊢
      by_cases k3 : yp_nK t n 0 401 (yp_nE t n p) = 0
      · rw [if_pos k3] at h ⊢
        by_cases k4 : yp_sk t n (yp_nE t n (yp_nE t n p)) < n ∧ t (yp_sk t n (yp_nE t n (yp_nE t n p))) = 59
        · rw [if_pos k4] at h; exact absurd rfl h
        · rw [if_neg k4]; show yp_sk t n (yp_nE t n (yp_nE t n p)) ≤ 600; omega
      · rw [if_neg k3]; show yp_sk t n (yp_nE t n p) ≤ 600; omega
    · rw [if_neg k2]; show yp_sk t n p ≤ 600; omega
  · rw [if_neg k1]; show yp_sk t n p ≤ 600; omega
set_option maxHeartbeats 1000000 in
theorem yp_c_bkread {mm : Mem} (h : yp_CT B mm t n 0) (hf : yp_FL B mm = (yp_N 0, -yp_N 1)) (w : Nat) (hw1 : 1 ≤ w) (hw : w ≤ 99) (h2 : mm (B + 20) 2 = yp_N 0) : ∃ x y, loopN (fun st : Int32 × Mem => fX0_read_b7 (yp_SH B) (B + 20) (B + 1) (yp_N w) st.1 st.2) FU (yp_N 0, mm) = some x ∧ loopN (fun z : yp_BkT => some (yp_bkS t n w z)) FU (0, 0, fun _ => (0, 0)) = some y ∧ yp_bkC B mm x y ∧ yp_bkW w y.2.2 := by
  have hT := yp_tapS B
  have hS := yp_bspS B
  have hn := h.2.1
  have key := yp_lpSim (step := fun st : Int32 × Mem => fX0_read_b7 (yp_SH B) (B + 20) (B + 1) (yp_N w) st.1 st.2) (ps := fun z : yp_BkT => some (yp_bkS t n w z)) (fun s z => ∃ m, s = (yp_N z.2.1, m) ∧ yp_CT B m t n z.1 ∧ yp_FL B m = (yp_N 0, -yp_N 1) ∧ m (B + 20) 2 = yp_N z.2.1 ∧ z.2.1 ≤ 8 ∧ (∀ l, l < z.2.1 → m (B + 21) l = yp_N (z.2.2 l).1 ∧ m (B + 22) l = yp_N (z.2.2 l).2) ∧ yp_Fr (yp_TBk B) mm m ∧ yp_bkW w z) (fun x y => yp_bkC B mm x y ∧ yp_bkW w y.2.2) (fun z => n + 1 - z.1) (fun s z hR => by
    obtain ⟨p, i, L⟩ := z
    obtain ⟨m, rfl, r1, r2, r3, r4, r5, r6, r7⟩ := hR
    have r1 : yp_CT B m t n p := r1
    have r3 : m (B + 20) 2 = yp_N i := r3
    have r4 : i ≤ 8 := r4
    have r5 : ∀ l, l < i → m (B + 21) l = yp_N (L l).1 ∧ m (B + 22) l = yp_N (L l).2 := r5
    have e0 := yp_c_ended r1
    have hq := r1.at (yp_sk_le (t := t) r1.2.2.1)
    have hpn := r1.2.2.1
    by_cases k0 : yp_sk t n p < n
    · rw [if_pos k0] at e0
      obtain ⟨m', e1, e2, e3, e4⟩ := yp_c_line hq (by rw [yp_FL_at]; exact r2) w i hw1 hw r4 (by rw [yp_cAt_n _ (by omega)]; exact r3)
      rw [yp_ln_sk, yp_nV_sk, yp_nE_sk] at e3
      rw [yp_ln_sk] at e4
      have F : yp_Fr (yp_TBk B) mm m' := (r6.tr (yp_T35_bk (yp_Fr_at _))).tr e2
      have bs : yp_bkS t n w (p, i, L) = if (yp_ln t n w p i).1 = 0 then .inl ((yp_ln t n w p i).2.2, i + 1, fun l => if l = i then (yp_nV t n p, yp_nV t n (yp_nE t n p)) else L l) else .inr ((yp_ln t n w p i).1, (yp_ln t n w p i).2.1, p, i, L) := if_pos k0
      by_cases k1 : (yp_ln t n w p i).1 = 0
      · rw [if_pos k1] at bs
        obtain ⟨g1, g2, g3, g4, g5, g6⟩ := e3 k1
        have f1 := (yp_c_whole B m').1 (by have := congrArg Prod.fst g2; exact this)
        have g7 := yp_ln_gt hpn k1
        refine .inl ⟨(yp_N (i + 1), m'), _, ?_, congrArg some bs, ⟨m', rfl, g1, g2, g3, ?_, fun l hl => ?_, F, ?_⟩, ?_⟩
        · simp (disch := omega) only [fX0_read_b7, hT, hS, e0, e1, f1, Nat.reduceAdd, Nat.reduceMul, Nat.reduceSub, Nat.zero_add, Nat.add_zero, yp_LT, yp_nA, yp_nM, yp_ltF, yp_ltT, yp_leF, yp_leT, yp_eqF, eq_self, yp_eqM, yp_lt1N, yp_sbN, yp_sb2N, ↓reduceIte, ↓yp_iP11, ↓yp_iP12, ↓yp_m0P]
        · exact (yp_ln_ok k1).2.1
        · have hl : l < i + 1 := hl
          show m' (B + 21) l = yp_N (if l = i then (yp_nV t n p, yp_nV t n (yp_nE t n p)) else L l).1 ∧ m' (B + 22) l = yp_N (if l = i then (yp_nV t n p, yp_nV t n (yp_nE t n p)) else L l).2
          by_cases e : l = i
          · rw [if_pos e, e]; exact ⟨g5, g6⟩
          · rw [if_neg e, (g4 l (by omega)).1, (g4 l (by omega)).2, yp_cAt_n _ (by omega), yp_cAt_n _ (by omega)]
            exact r5 l (by omega)
        · intro l hl
          have hl : l < i + 1 := hl
          show (if l = i then (yp_nV t n p, yp_nV t n (yp_nE t n p)) else L l).1 < w
          by_cases e : l = i
          · rw [if_pos e]; exact (yp_nK_0 (yp_ln_ok k1).1).2.2
          · rw [if_neg e]; exact r7 l (by show l < i; omega)
        · show n + 1 - (yp_ln t n w p i).2.2 < n + 1 - p
          omega
      · rw [if_neg k1] at bs
        have g2 := e4 k1
        have kl := yp_ln_le (t := t) (n := n) (p := p) w i
        have f1 := (yp_c_whole B m').2 (by
          have : m' (B + 1) 4 = yp_N (yp_ln t n w p i).1 := congrArg Prod.fst g2
          rw [this, yp_eqN (by omega) (by omega)]; exact k1)
        refine .inr ⟨.inl m', _, ?_, congrArg some bs, ⟨kl, .inr ⟨k1, yp_ln_x hpn hn k1, m', rfl, F, g2⟩⟩, r7⟩
        simp (disch := omega) only [fX0_read_b7, hT, hS, e0, e1, f1, Nat.reduceAdd, Nat.reduceMul, Nat.reduceSub, Nat.zero_add, Nat.add_zero, yp_LT, yp_nA, yp_nM, yp_ltF, yp_ltT, yp_leF, yp_leT, yp_eqF, eq_self, yp_eqM, yp_lt1N, yp_sbN, yp_sb2N, ↓reduceIte, ↓yp_iP11, ↓yp_iP12, ↓yp_m0P]
    · rw [if_neg k0] at e0
      have bs : yp_bkS t n w (p, i, L) = .inr (0, 0, p, i, L) := if_neg k0
      refine .inr ⟨.inr (yp_cAt B m (yp_sk t n p)), _, ?_, congrArg some bs, ⟨Nat.zero_le 3, .inl ⟨rfl, _, rfl, r6.tr (yp_T35_bk (yp_Fr_at _)), by rw [yp_FL_at]; exact r2, by rw [yp_cAt_n _ (by omega)]; exact r3, r4, fun l hl => by rw [yp_cAt_n _ (by omega), yp_cAt_n _ (by omega)]; exact r5 l hl⟩⟩, r7⟩
      simp (disch := omega) only [fX0_read_b7, hT, hS, e0, Nat.reduceAdd, Nat.reduceMul, Nat.reduceSub, Nat.zero_add, Nat.add_zero, yp_LT, yp_nA, yp_nM, yp_ltF, yp_ltT, yp_leF, yp_leT, yp_eqF, eq_self, yp_eqM, yp_lt1N, yp_sbN, yp_sb2N, ↓reduceIte, ↓yp_iP11, ↓yp_iP12, ↓yp_m0P]) FU (yp_N 0, mm) (0, 0, fun _ => (0, 0)) (by rw [yp_FUe]; show n + 1 - 0 < 8000; omega) ⟨mm, rfl, h, hf, h2, Nat.zero_le 8, fun l hl => absurd hl (Nat.not_lt_zero l), yp_Fr.rf, fun l hl => absurd hl (Nat.not_lt_zero l)⟩
  exact key
end BOOKC

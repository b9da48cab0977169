section BOOKM
variable {B : Nat} {m : Mem} {t : Nat → Nat} {n p : Nat}
def yp_TBm (B : Nat) : Nat → Nat → Prop := fun a j => (a = B + 517 ∧ (j = 4 ∨ j = 5 ∨ j = 6)) ∨ a = B + 536
def yp_T46 (B : Nat) : Nat → Nat → Prop := fun a j => a = B + 517 ∧ (j = 4 ∨ j = 5 ∨ j = 6)
set_option maxHeartbeats 1000000 in
theorem yp_Fr_rAt (q : Nat) : yp_Fr (yp_T46 B) m (yp_rAt B m q) := fun a j h => yp_rAt_n q (by unfold yp_T46 at h; omega)
set_option maxHeartbeats 1000000 in
theorem yp_Fr_rF (k x : Nat) : yp_Fr (yp_T46 B) m (yp_rF B m k x) := fun a j h => yp_rF_n k x (by unfold yp_T46 at h; omega)
set_option maxHeartbeats 1000000 in
theorem yp_m_num (h : yp_RT B m t n p) (hf : m (B + 517) 5 = -yp_N 1) (lo hi : Nat) (x2 : Int32) (hx : x2.toInt = (hi : Int) - 1) (hlo : lo ≤ 1000) (hhi : hi ≤ 1000) : ∃ v m', fX12_readNumber (yp_SH B) (B + 517) (yp_N lo) x2 m = some (v, m') ∧ yp_RT B m' t n (yp_nE t n p) ∧ yp_Fr (yp_T46 B) m m' ∧ (yp_nK t n lo hi p = 0 → v = yp_N (yp_nV t n p) ∧ m' (B + 517) 5 = -yp_N 1) ∧ (yp_nK t n lo hi p ≠ 0 → m' (B + 517) 5 = yp_N (yp_sk t n p) ∧ m' (B + 517) 6 = yp_N (yp_nK t n lo hi p)) := by
  have e := yp_m_number h hf lo hi x2 hx hlo hhi
  have g := h.at (yp_nE_le (t := t) h.2.2.1)
  by_cases k : yp_nK t n lo hi p = 0
  · rw [if_pos k, if_pos k] at e
    exact ⟨_, _, e, g, yp_Fr_rAt _, fun _ => ⟨rfl, (yp_rAt_n _ (by omega)).trans hf⟩, fun q => absurd k q⟩
  · rw [if_neg k, if_neg k] at e
    exact ⟨_, _, e, g.fl _ _, (yp_Fr_rAt _).tr (yp_Fr_rF _ _), fun q => absurd q k, fun _ => yp_rF_5 _ _ _ _⟩
set_option maxHeartbeats 1000000 in
theorem yp_m_sg (h : yp_RT B m t n p) (hf : m (B + 517) 5 = -yp_N 1) (c : Nat) (hc1 : 1 ≤ c) (hc : c < 256) : ∃ m', fX12_sign (yp_SH B) (B + 517) (yp_N c) m = some m' ∧ yp_Fr (yp_T46 B) m m' ∧ (yp_sg t n p c → yp_RT B m' t n (yp_sk t n p + 1) ∧ m' (B + 517) 5 = -yp_N 1) ∧ (¬ yp_sg t n p c → yp_RT B m' t n (yp_sk t n p) ∧ m' (B + 517) 5 = yp_N (yp_sk t n p) ∧ m' (B + 517) 6 = yp_N 1) := by
  by_cases e : yp_sg t n p c
  · exact ⟨_, yp_m_sign1 h hf c hc1 hc e, yp_Fr_rAt _, fun _ => ⟨h.at e.1, (yp_rAt_n _ (by omega)).trans hf⟩, fun q => absurd e q⟩
  · exact ⟨_, yp_m_sign0 h hf c hc1 hc e, (yp_Fr_rAt _).tr (yp_Fr_rF _ _), fun q => absurd q e, fun _ => ⟨(h.at (yp_sk_le (t := t) h.2.2.1)).fl _ _, yp_rF_5 _ _ _ _⟩⟩
set_option maxHeartbeats 1000000 in
theorem yp_nM1 {x : Nat} (hx : x < 2147483648) : ¬ (yp_N x : Int32) = -yp_N 1 := fun h => by rw [yp_eqM hx] at h; exact h
set_option maxHeartbeats 1000000 in
theorem yp_T46_bm {m' : Mem} (h : yp_Fr (yp_T46 B) m m') : yp_Fr (yp_TBm B) m m' := h.mono (fun a j q => by unfold yp_T46 at q; unfold yp_TBm; omega)
set_option maxHeartbeats 1000000 in
theorem yp_bmS (B : Nat) : rR (yp_SH B) 12 (B + 517) 40 = some (B + 536) ∧ rR (yp_SH B) 12 (B + 517) 41 = some (B + 537) ∧ (∀ mm k v, k < 16 → aS (yp_SH B) mm (B + 536) (yp_N k) v = some (up2 mm (B + 536) k v)) := by
  refine ⟨?_, ?_, fun mm k v h => yp_aSN (yp_sa536 B) mm k v h (by omega)⟩
  · rw [rR, yp_so517]; rfl
  · rw [rR, yp_so517]; rfl
def yp_bkM (B : Nat) (mm : Mem) (x : (Int32 × Mem) ⊕ (Int32 × Mem)) (y : Nat × Nat × yp_BkT) : Prop := (y.1 = 0 ∧ ∃ m, x = .inr (yp_N y.2.2.2.1, m) ∧ yp_Fr (yp_TBm B) mm m ∧ m (B + 517) 5 = -yp_N 1 ∧ y.2.2.2.1 ≤ 8 ∧ ∀ l, l < y.2.2.2.1 → m (B + 536) (2 * l) = yp_N (y.2.2.2.2 l).1 ∧ m (B + 536) (2 * l + 1) = yp_N (y.2.2.2.2 l).2) ∨ (y.1 ≠ 0 ∧ ∃ v m, x = .inl (v, m) ∧ yp_Fr (yp_TBm B) mm m ∧ m (B + 517) 5 = yp_N y.2.1 ∧ m (B + 517) 6 = yp_N y.1)
set_option maxHeartbeats 1000000 in
theorem yp_m_bkread {mm : Mem} (h : yp_RT B mm t n 0) (hf : mm (B + 517) 5 = -yp_N 1) (w : Nat) (hw1 : 1 ≤ w) (hw : w ≤ 99) (h2 : mm (B + 517) 19 = yp_N w) : ∃ x y, loopN (fun st : Int32 × Mem => fX12_book_b46 (yp_SH B) (B + 517) st.1 st.2) FU (yp_N 0, mm) = some x ∧ loopN (fun z : yp_BkT => some (yp_bkS t n w z)) FU (0, 0, fun _ => (0, 0)) = some y ∧ yp_bkM B mm x y := by
  have hM := yp_mS B
  have hS := yp_bmS B
  have hn := h.2.1
  refine yp_lpSim (step := fun st : Int32 × Mem => fX12_book_b46 (yp_SH B) (B + 517) st.1 st.2) (ps := fun z : yp_BkT => some (yp_bkS t n w z)) (fun s z => ∃ m, s = (yp_N z.2.1, m) ∧ yp_RT B m t n z.1 ∧ m (B + 517) 5 = -yp_N 1 ∧ z.2.1 ≤ 8 ∧ (∀ l, l < z.2.1 → m (B + 536) (2 * l) = yp_N (z.2.2 l).1 ∧ m (B + 536) (2 * l + 1) = yp_N (z.2.2 l).2) ∧ yp_Fr (yp_TBm B) mm m) (yp_bkM B mm) (fun z => n + 1 - z.1) (fun s z hR => ?_) FU (yp_N 0, mm) (0, 0, fun _ => (0, 0)) (by rw [yp_FUe]; show n + 1 - 0 < 8000; omega) ⟨mm, rfl, h, hf, Nat.zero_le 8, fun l hl => absurd hl (Nat.not_lt_zero l), yp_Fr.rf⟩
  obtain ⟨p, i, L⟩ := z
  obtain ⟨m, rfl, r1, r2, r4, r5, r6⟩ := hR
  have r1 : yp_RT B m t n p := r1
  have r4 : i ≤ 8 := r4
  have r5 : ∀ l, l < i → m (B + 536) (2 * l) = yp_N (L l).1 ∧ m (B + 536) (2 * l + 1) = yp_N (L l).2 := r5
  have hpn := r1.2.2.1
  have hl := yp_sk_le (t := t) hpn
  have e0 := yp_m_more r1
  have f0 := yp_m_fine1 r2
  have hq := r1.at hl
  have kl := yp_nK_le t n 0 w p
  have kl2 := yp_nK_le t n 0 401 (yp_nE t n p)
  by_cases k0 : yp_sk t n p < n
  · rw [if_pos k0] at e0
    have e1 := yp_m_here hq
    rw [yp_sk_fix, if_pos k0, yp_rAt2] at e1
    have c3 := hq.1.2.1
    have c19 : yp_rAt B m (yp_sk t n p) (B + 517) 19 = yp_N w := (yp_rAt_n _ (by omega)).trans ((r6 _ _ (by unfold yp_TBm; omega)).trans h2)
    have bs : yp_bkS t n w (p, i, L) = if (yp_ln t n w p i).1 = 0 then .inl ((yp_ln t n w p i).2.2, i + 1, fun l => if l = i then (yp_nV t n p, yp_nV t n (yp_nE t n p)) else L l) else .inr ((yp_ln t n w p i).1, (yp_ln t n w p i).2.1, p, i, L) := if_pos k0
    obtain ⟨v4, m5, a1, a2, a3, a4, a5⟩ := yp_m_num hq ((yp_rAt_n _ (by omega)).trans r2) 0 w (yp_N w - yp_N 1) (by rw [yp_nS hw1, yp_tiN (by omega)]; omega) (by omega) (by omega)
    rw [yp_nE_sk] at a2
    rw [yp_nK_sk, yp_nV_sk] at a4
    rw [yp_nK_sk, yp_sk_fix] at a5
    have F5 : yp_Fr (yp_TBm B) mm m5 := (r6.tr (yp_T46_bm (yp_Fr_rAt _))).tr (yp_T46_bm a3)
    have hB := yp_nE_le (t := t) hpn
    have hC := yp_nE_le (t := t) hB
    by_cases k1 : yp_nK t n 0 w p = 0
    · obtain ⟨rfl, a6⟩ := a4 k1
      have f5 := yp_m_fine1 a6
      by_cases k2 : i < 8
      · obtain ⟨v14, m15, d1, d2, d3, d4, d5⟩ := yp_m_num a2 a6 0 401 (yp_N 400) (by rw [yp_tiN (by omega)]; omega) (by omega) (by omega)
        by_cases k3 : yp_nK t n 0 401 (yp_nE t n p) = 0
        · obtain ⟨rfl, d6⟩ := d4 k3
          obtain ⟨m18, j1, j2, j3, j4⟩ := yp_m_sg d2 d6 59 (by omega) (by omega)
          have F18 : yp_Fr (yp_TBm B) mm m18 := (F5.tr (yp_T46_bm d3)).tr (yp_T46_bm j2)
          by_cases k4 : yp_sk t n (yp_nE t n (yp_nE t n p)) < n ∧ t (yp_sk t n (yp_nE t n (yp_nE t n p))) = 59
          · have lnE : yp_ln t n w p i = (0, 0, yp_sk t n (yp_nE t n (yp_nE t n p)) + 1) := by unfold yp_ln; rw [if_pos k1, if_pos k2, if_pos k3, if_pos k4]
            rw [lnE, if_pos rfl] at bs
            obtain ⟨j5, j6⟩ := j3 k4
            have f18 := yp_m_fine1 j6
            have g := yp_ln_gt (t := t) (n := n) (p := p) (w := w) (i := i) hpn (by rw [lnE])
            rw [lnE] at g
            have g : p < yp_sk t n (yp_nE t n (yp_nE t n p)) + 1 ∧ yp_sk t n (yp_nE t n (yp_nE t n p)) + 1 ≤ n := g
            refine .inl ⟨(yp_N (i + 1), up2 (up2 m18 (B + 536) (2 * i) (yp_N (yp_nV t n p))) (B + 536) (2 * i + 1) (yp_N (yp_nV t n (yp_nE t n p)))), _, ?_, congrArg some bs, ⟨_, rfl, ?_, ?_, k2, fun l hl => ?_, (F18.up (by unfold yp_TBm; omega)).up (by unfold yp_TBm; omega)⟩, ?_⟩
            · simp (disch := omega) only [fX12_book_b46, fX12_book_j102, hM, hS, f0, e0, e1, c3, c19, a1, f5, d1, j1, f18, Nat.reduceAdd, Nat.reduceMul, Nat.reduceSub, Nat.zero_add, Nat.add_zero, yp_LT, yp_nA, yp_nM, yp_ltF, yp_ltT, yp_leF, yp_leT, yp_eqF, eq_self, yp_eqM, yp_lt1N, yp_sbN, yp_sb2N, ↓reduceIte, ↓yp_iP11, ↓yp_iP12, ↓yp_m0P]
            · exact j5.fr (fun a j q => by rw [yp_up2_n _ _ (by omega), yp_up2_n _ _ (by omega)])
            · rw [yp_up2_n _ _ (by omega), yp_up2_n _ _ (by omega)]; exact j6
            · have hl : l < i + 1 := hl
              show _ = yp_N (if l = i then (yp_nV t n p, yp_nV t n (yp_nE t n p)) else L l).1 ∧ _ = yp_N (if l = i then (yp_nV t n p, yp_nV t n (yp_nE t n p)) else L l).2
              by_cases e : l = i
              · rw [if_pos e, e, yp_up2_n _ _ (by omega), yp_up2_s, yp_up2_s]; exact ⟨rfl, rfl⟩
              · rw [if_neg e, yp_up2_n _ _ (by omega), yp_up2_n _ _ (by omega), yp_up2_n _ _ (by omega), yp_up2_n _ _ (by omega), j2 _ _ (by unfold yp_T46; omega), j2 _ _ (by unfold yp_T46; omega), d3 _ _ (by unfold yp_T46; omega), d3 _ _ (by unfold yp_T46; omega), a3 _ _ (by unfold yp_T46; omega), a3 _ _ (by unfold yp_T46; omega), yp_rAt_n _ (by omega), yp_rAt_n _ (by omega)]
                exact r5 l (by omega)
            · show n + 1 - (yp_sk t n (yp_nE t n (yp_nE t n p)) + 1) < n + 1 - p
              omega
          · have lnE : yp_ln t n w p i = (1, yp_sk t n (yp_nE t n (yp_nE t n p)), 0) := by unfold yp_ln; rw [if_pos k1, if_pos k2, if_pos k3, if_neg k4]
            rw [lnE, if_neg (show ¬ (1 : Nat) = 0 by decide)] at bs
            obtain ⟨_, j5, j6⟩ := j4 k4
            have f18 := yp_m_fine0 (B := B) (m := m18) (by rw [j5]; exact yp_nM1 (by have := yp_sk_le (t := t) hC; omega))
            refine .inr ⟨.inl (yp_N i, m18), _, ?_, congrArg some bs, .inr ⟨(show ¬ (1 : Nat) = 0 by decide), _, m18, rfl, F18, j5, j6⟩⟩
            simp (disch := omega) only [fX12_book_b46, fX12_book_j102, hM, hS, f0, e0, e1, c3, c19, a1, f5, d1, j1, f18, Nat.reduceAdd, Nat.reduceMul, Nat.reduceSub, Nat.zero_add, Nat.add_zero, yp_LT, yp_nA, yp_nM, yp_ltF, yp_ltT, yp_leF, yp_leT, yp_eqF, eq_self, yp_eqM, yp_lt1N, yp_sbN, yp_sb2N, ↓reduceIte, ↓yp_iP11, ↓yp_iP12, ↓yp_m0P]
        · have lnE : yp_ln t n w p i = (yp_nK t n 0 401 (yp_nE t n p), yp_sk t n (yp_nE t n p), 0) := by unfold yp_ln; rw [if_pos k1, if_pos k2, if_neg k3]
          rw [lnE, if_neg k3] at bs
          obtain ⟨d6, d7⟩ := d5 k3
          have nf : ¬ m15 (B + 517) 5 = -yp_N 1 := by rw [d6]; exact yp_nM1 (by have := yp_sk_le (t := t) hB; omega)
          have j1 := yp_m_signX nf (yp_N 59)
          have f15 := yp_m_fine0 nf
          refine .inr ⟨.inl (yp_N i, m15), _, ?_, congrArg some bs, .inr ⟨k3, _, m15, rfl, F5.tr (yp_T46_bm d3), d6, d7⟩⟩
          simp (disch := omega) only [fX12_book_b46, fX12_book_j102, hM, hS, f0, e0, e1, c3, c19, a1, f5, d1, j1, f15, Nat.reduceAdd, Nat.reduceMul, Nat.reduceSub, Nat.zero_add, Nat.add_zero, yp_LT, yp_nA, yp_nM, yp_ltF, yp_ltT, yp_leF, yp_leT, yp_eqF, eq_self, yp_eqM, yp_lt1N, yp_sbN, yp_sb2N, ↓reduceIte, ↓yp_iP11, ↓yp_iP12, ↓yp_m0P]
      · have : i = 8 := by omega
        subst this
        have lnE : yp_ln t n w p 8 = (3, yp_sk t n p, 0) := by unfold yp_ln; rw [if_pos k1, if_neg k2]
        rw [lnE, if_neg (show ¬ (3 : Nat) = 0 by decide)] at bs
        have g1 := yp_m_wrong1 a6 3 (yp_sk t n p)
        have nf := yp_rF_x (B := B) (m := m5) (k := 3) (x := yp_sk t n p) (by omega)
        have d1 := yp_m_numX nf (yp_N 0) (yp_N 400)
        have j1 := yp_m_signX nf (yp_N 59)
        have f15 := yp_m_fine0 nf
        have g2 := yp_rF_5 B m5 3 (yp_sk t n p)
        refine .inr ⟨.inl (yp_N 8, yp_rF B m5 3 (yp_sk t n p)), _, ?_, congrArg some bs, .inr ⟨(show ¬ (3 : Nat) = 0 by decide), _, _, rfl, F5.tr (yp_T46_bm (yp_Fr_rF _ _)), g2⟩⟩
        simp (disch := omega) only [fX12_book_b46, fX12_book_j102, hM, hS, f0, e0, e1, c3, c19, a1, f5, g1, d1, j1, f15, Nat.reduceAdd, Nat.reduceMul, Nat.reduceSub, Nat.zero_add, Nat.add_zero, yp_LT, yp_nA, yp_nM, yp_ltF, yp_ltT, yp_leF, yp_leT, yp_eqF, eq_self, yp_eqM, yp_lt1N, yp_sbN, yp_sb2N, ↓reduceIte, ↓yp_iP11, ↓yp_iP12, ↓yp_m0P]
    · have lnE : yp_ln t n w p i = (yp_nK t n 0 w p, yp_sk t n p, 0) := by unfold yp_ln; rw [if_neg k1]
      rw [lnE, if_neg k1] at bs
      obtain ⟨a6, a7⟩ := a5 k1
      have nf : ¬ m5 (B + 517) 5 = -yp_N 1 := by rw [a6]; exact yp_nM1 (by omega)
      have d1 := yp_m_numX nf (yp_N 0) (yp_N 400)
      have j1 := yp_m_signX nf (yp_N 59)
      have f15 := yp_m_fine0 nf
      refine .inr ⟨.inl (yp_N i, m5), _, ?_, congrArg some bs, .inr ⟨k1, _, m5, rfl, F5, a6, a7⟩⟩
      simp (disch := omega) only [fX12_book_b46, fX12_book_j102, hM, hS, f0, e0, e1, c3, c19, a1, d1, j1, f15, Nat.reduceAdd, Nat.reduceMul, Nat.reduceSub, Nat.zero_add, Nat.add_zero, yp_LT, yp_nA, yp_nM, yp_ltF, yp_ltT, yp_leF, yp_leT, yp_eqF, eq_self, yp_eqM, yp_lt1N, yp_sbN, yp_sb2N, ↓reduceIte, ↓yp_iP11, ↓yp_iP12, ↓yp_m0P]
  · rw [if_neg k0] at e0
    have bs : yp_bkS t n w (p, i, L) = .inr (0, 0, p, i, L) := if_neg k0
    refine .inr ⟨.inr (yp_N i, yp_rAt B m (yp_sk t n p)), _, ?_, congrArg some bs, .inl ⟨rfl, _, rfl, r6.tr (yp_T46_bm (yp_Fr_rAt _)), (yp_rAt_n _ (by omega)).trans r2, r4, fun l hl => by rw [yp_rAt_n _ (by omega), yp_rAt_n _ (by omega)]; exact r5 l hl⟩⟩
    simp (disch := omega) only [fX12_book_b46, hM, f0, e0, Nat.reduceAdd, Nat.reduceMul, Nat.reduceSub, Nat.zero_add, Nat.add_zero, yp_LT, yp_nA, yp_nM, yp_ltF, yp_ltT, yp_leF, yp_leT, yp_eqF, eq_self, yp_eqM, yp_lt1N, yp_sbN, yp_sb2N, ↓reduceIte, ↓yp_iP11, ↓yp_iP12, ↓yp_m0P]
end BOOKM
section PBOOK
variable {B : Nat} {mm : Mem} {A : yp_St}
def yp_bkA (A : yp_St) (i : Nat) (L : Nat → Nat × Nat) : yp_St := (A.1, A.2.1, A.2.2.1, A.2.2.2.1, (i, fun l => yp_N (L l).1, fun l => yp_N (L l).2), A.2.2.2.2.2)
set_option maxHeartbeats 1000000 in
theorem yp_INV.bk (hI : yp_INV A) {i : Nat} {L : Nat → Nat × Nat} (hi : i ≤ 8) (h : ∀ l, l < i → (L l).1 < yp_qw (yp_sQ A)) : yp_INV (yp_bkA A i L) := ⟨hI.1, hI.2.1, hI.2.2.1, hI.2.2.2.1, ⟨hi, fun l hl => by
  have h1 := h l hl
  have h2 := hI.1.2.2.2.1
  show 0 ≤ (yp_N (L l).1).toInt ∧ (yp_N (L l).1).toInt < yp_qw (yp_sQ A)
  rw [yp_tiN (by omega)]
  omega⟩, hI.2.2.2.2.2⟩
set_option maxHeartbeats 1000000 in
theorem yp_RCc.bk (hR : yp_RCc B mm A) (hI : yp_INV A) {m : Mem} {i : Nat} {L : Nat → Nat × Nat} (hF : ∀ a j, yp_KC B a j → a ≠ B + 17 → a ≠ B + 18 → a ≠ B + 19 → m a j = mm a j) (h2 : m (B + 17) 2 = yp_N i) (hL : ∀ l, l < i → m (B + 18) l = yp_N (L l).1 ∧ m (B + 19) l = yp_N (L l).2) : yp_RCc B m (yp_bkA A i L) := by
  obtain ⟨mp, hmp⟩ : ∃ mp : Mem, mp = fun a j => if a = B + 17 ∨ a = B + 18 ∨ a = B + 19 then mm a j else m a j := ⟨_, rfl⟩
  have hR2 : yp_RCc B mp A := hR.fr hI (fun a j h => by
    rw [hmp]
    by_cases e : a = B + 17 ∨ a = B + 18 ∨ a = B + 19
    · exact if_pos e
    · exact (if_neg e).trans (hF a j h (by omega) (by omega) (by omega)))
  have g : ∀ a j, ¬ (a = B + 17 ∨ a = B + 18 ∨ a = B + 19) → m a j = mp a j := fun a j h => by rw [hmp]; exact (if_neg h).symm
  obtain ⟨r1, r2, ⟨r3, r4⟩, ⟨r5, r6⟩, ⟨r7, r8, r9⟩, ⟨r10, r11, r12⟩, ⟨r13, r14, r15⟩, r16⟩ := hR2
  exact ⟨r1.fr (fun a j h => g a j (by omega)), r2.same (fun a j q1 q2 => g a j (by omega)), ⟨(g _ _ (by omega)).trans r3, fun i hi => (r4 i hi).same (fun a j q1 q2 => g a j (by omega))⟩, ⟨(g _ _ (by omega)).trans r5, fun i hi => ⟨(r6 i hi).1.same (fun a j q1 q2 => g a j (by omega)), (g _ _ (by omega)).trans (r6 i hi).2.1, fun j hj => ((r6 i hi).2.2 j hj).same (fun a q q1 q2 => g a q (by omega))⟩⟩, ⟨h2, fun l hl => (hL l hl).1, fun l hl => (hL l hl).2⟩, ⟨(g _ _ (by omega)).trans r10, fun k hk => (g _ _ (by omega)).trans (r11 k hk), (g _ _ (by omega)).trans r12⟩, ⟨(g _ _ (by omega)).trans r13, (g _ _ (by omega)).trans r14, (g _ _ (by omega)).trans r15⟩, fun k hk => (g _ _ (by omega)).trans (r16 k hk)⟩
set_option maxHeartbeats 1000000 in
theorem yp_RMm.bk {m m' : Mem} (hR : yp_RMm B m A) {i : Nat} {L : Nat → Nat × Nat} (hF : ∀ a j, yp_KM B a j → ¬ (a = B + 517 ∧ j = 42) → a ≠ B + 537 → m' a j = m a j) (h2 : m' (B + 517) 42 = yp_N i) (hL : ∀ l, l < i → m' (B + 537) (2 * l) = yp_N (L l).1 ∧ m' (B + 537) (2 * l + 1) = yp_N (L l).2) : yp_RMm B m' (yp_bkA A i L) := by
  obtain ⟨mp, hmp⟩ : ∃ mp : Mem, mp = fun a j => if (a = B + 517 ∧ j = 42) ∨ a = B + 537 then m a j else m' a j := ⟨_, rfl⟩
  have hR2 : yp_RMm B mp A := hR.fr (fun a j h => by
    rw [hmp]
    by_cases e : (a = B + 517 ∧ j = 42) ∨ a = B + 537
    · exact if_pos e
    · exact (if_neg e).trans (hF a j h (by omega) (by omega)))
  have g : ∀ a j, ¬ ((a = B + 517 ∧ j = 42) ∨ a = B + 537) → m' a j = mp a j := fun a j h => by rw [hmp]; exact (if_neg h).symm
  obtain ⟨r1, r2, ⟨r3, r4⟩, ⟨r5, r6⟩, ⟨r7, r8, r9⟩, ⟨r10, r11, r12⟩, ⟨r13, r14, r15⟩⟩ := hR2
  exact ⟨r1.fr (fun a j h => g a j (by omega)), r2.same (fun j => g _ j (by omega)), ⟨(g _ _ (by omega)).trans r3, fun i hi k hk => (g _ _ (by omega)).trans (r4 i hi k hk)⟩, ⟨(g _ _ (by omega)).trans r5, fun i hi => ⟨fun k hk => (g _ _ (by omega)).trans ((r6 i hi).1 k hk), (g _ _ (by omega)).trans (r6 i hi).2.1, fun j hj k hk => (g _ _ (by omega)).trans ((r6 i hi).2.2 j hj k hk)⟩⟩, ⟨h2, fun l hl => (hL l hl).1, fun l hl => (hL l hl).2⟩, ⟨(g _ _ (by omega)).trans r10, fun k hk => (g _ _ (by omega)).trans (r11 k hk), (g _ _ (by omega)).trans r12⟩, ⟨(g _ _ (by omega)).trans r13, (g _ _ (by omega)).trans r14, (g _ _ (by omega)).trans r15⟩⟩
set_option maxHeartbeats 1000000 in
theorem yp_PM_x {f : Option ((Int32 ⊕ Nat) × Mem)} {g : Mem → Option (Int32 × Mem)} {hc : Nat → Option Int32} {A' : yp_St} (hI' : yp_INV A') {v : Int32} {m1 : Mem} (h1 : f = some (.inl v, m1)) (hR1 : yp_RCc B m1 A') (hF : ∀ a j, B + 517 ≤ a → m1 a j = mm a j) (hg : ∀ m, yp_RMm B m A → ∃ m2, g m = some (v, m2) ∧ yp_RMm B m2 A' ∧ m2 (B + 517) 0 = yp_N 0 ∧ ∀ a j, a < B + 517 ∨ B + 542 ≤ a → m2 a j = m a j) : yp_PM B f g hc mm A :=
  ⟨.inl v, yp_N 0, v, A', hI', ⟨m1, h1, hR1, hF⟩, fun m hm => by
    obtain ⟨m2, e1, e2, e3, e4⟩ := hg m hm
    exact ⟨m2, v, e1, e3, fun _ => rfl, e2, e4⟩, .inl ⟨rfl, rfl⟩⟩
set_option maxHeartbeats 1000000 in
theorem yp_cpy_v (m : Mem) (a b n k : Nat) (hk : k < n) : cpy2 m a b 0 0 n b k = m a k := by
  unfold cpy2
  rw [if_pos ⟨rfl, by omega, by omega⟩]
  exact congrArg (m a) (by omega)
set_option maxHeartbeats 1000000 in
theorem yp_cpy_n (m : Mem) {a b n c k : Nat} (h : c ≠ b) : cpy2 m a b 0 0 n c k = m c k := by
  unfold cpy2
  exact if_neg (fun q => h q.1)
set_option maxHeartbeats 1000000 in
theorem yp_m0_KM {m : Mem} {a j : Nat} (h : yp_KM B a j ∨ a < B + 517 ∨ B + 542 ≤ a) : yp_m0 B m a j = m a j := yp_m0n (by unfold yp_KM at h; omega)
set_option maxHeartbeats 1000000 in
theorem yp_p_book (hR : yp_RCc B mm A) (hI : yp_INV A) (x : Int32) : yp_PM B (fX11_book (yp_SH B) B x mm) (fun m => fX12_book (yp_SH B) (B + 517) x m) hcI mm A := by
  have hA := yp_clsS B
  have hT := yp_tapS B
  have hS := yp_bspS B
  have hM := yp_mS B
  have hU := yp_bmS B
  have hB := yp_bokS B
  have hw1 := hI.1.2.2.1
  have hw := hI.1.2.2.2.1
  rcases yp_txtR hR hI x 60 (by omega) with ⟨k, k1, k2, rfl, s1⟩ | ⟨hb, s1⟩
  rotate_left
  · refine yp_PM_e1 hR hI (by simp (disch := omega) only [fX11_book, hA, s1, ↓yp_smLN, ↓yp_smRN, Nat.reduceAdd, Nat.reduceMul, Nat.reduceSub, Nat.zero_add, Nat.add_zero, yp_LT, yp_nA, yp_nM, yp_ltF, yp_ltT, yp_leF, yp_leT, yp_eqF, eq_self, yp_eqM, yp_lt1N, yp_sbN, yp_sb2N, ↓reduceIte, ↓yp_iP11, ↓yp_iP12, ↓yp_m0P]) (fun m hm => ?_) rfl yp_n1
    have e := (yp_m0R hm).2.2.2.2.2.1.1
    rcases hb with h | h | h
    · simp (disch := omega) only [fX12_book_j156, fX12_book_j125, fX12_book_j102, fX12_book_j29, fX12_book_j28, fX12_book, hM, yp_m0e, h, yp_may11, Nat.reduceAdd, Nat.reduceMul, Nat.reduceSub, Nat.zero_add, Nat.add_zero, yp_LT, yp_nA, yp_nM, yp_ltF, yp_ltT, yp_leF, yp_leT, yp_eqF, eq_self, yp_eqM, yp_lt1N, yp_sbN, yp_sb2N, ↓reduceIte, ↓yp_iP11, ↓yp_iP12, ↓yp_m0P]
    · simp (disch := omega) only [fX12_book_j156, fX12_book_j125, fX12_book_j102, fX12_book_j29, fX12_book_j28, fX12_book, hM, yp_m0e, e, h, yp_may11, Nat.reduceAdd, Nat.reduceMul, Nat.reduceSub, Nat.zero_add, Nat.add_zero, yp_LT, yp_nA, yp_nM, yp_ltF, yp_ltT, yp_leF, yp_leT, yp_eqF, eq_self, yp_eqM, yp_lt1N, yp_sbN, yp_sb2N, ↓reduceIte, ↓yp_iP11, ↓yp_iP12, ↓yp_m0P]
    · simp (disch := omega) only [fX12_book_j156, fX12_book_j125, fX12_book_j102, fX12_book_j29, fX12_book_j28, fX12_book, hM, yp_m0e, e, h, yp_may11, Nat.reduceAdd, Nat.reduceMul, Nat.reduceSub, Nat.zero_add, Nat.add_zero, yp_LT, yp_nA, yp_nM, yp_ltF, yp_ltT, yp_leF, yp_leT, yp_eqF, eq_self, yp_eqM, yp_lt1N, yp_sbN, yp_sb2N, ↓reduceIte, ↓yp_iP11, ↓yp_iP12, ↓yp_m0P]
  obtain ⟨o1, o2, o3, o4, o5⟩ := yp_opn_v B mm k
  have hq6 := hI.2.2.2.2.2.1
  have c0 := yp_opn_T hR hI k1
  obtain ⟨m1, hm1⟩ : ∃ m1, m1 = up2 (yp_opn B mm k) (B + 20) 2 (yp_N 0) := ⟨_, rfl⟩
  have n1' : ∀ a j, a ≠ B + 20 → m1 a j = yp_opn B mm k a j := fun a j h => by rw [hm1, yp_up2_n _ _ (by omega)]
  have c1 : yp_CT B m1 (yp_tb A) k 0 := c0.fr (fun a j q => n1' a j (by omega))
  have f1 : yp_FL B m1 = (yp_N 0, -yp_N 1) := by unfold yp_FL; rw [n1' _ _ (by omega), n1' _ _ (by omega), o4, o5]
  have w7 : yp_opn B mm k (B + 3) 5 = yp_N (yp_qw (yp_sQ A)) := (yp_opn_n (by omega)).trans hR.1.2.2.1
  obtain ⟨r, y, g1, g2, g3, g4⟩ := yp_c_bkread c1 f1 (yp_qw (yp_sQ A)) (by omega) hw (by rw [hm1, yp_up2_s])
  have goM : ∀ m, yp_RMm B m A → ∃ r', loopN (fun st : Int32 × Mem => fX12_book_b46 (yp_SH B) (B + 517) st.1 st.2) FU (yp_N 0, yp_beg B (yp_m0 B m) k) = some r' ∧ yp_bkM B (yp_beg B (yp_m0 B m) k) r' y := fun m hm => by
    have hm0 := yp_m0R hm
    obtain ⟨p1, p2, p3, p4, p5, p6⟩ := yp_beg_v B (yp_m0 B m) k
    obtain ⟨r', y', q1, q2, q3⟩ := yp_m_bkread (yp_beg_T hm0 hI k1) p4 (yp_qw (yp_sQ A)) (by omega) hw ((yp_beg_n (by omega)).trans hm0.1.2.2.1)
    rw [g2] at q2
    obtain rfl : y = y' := Option.some.inj q2
    exact ⟨r', q1, q3⟩
  have eM := fun m (hm : yp_RMm B m A) => (yp_m0R hm).2.2.2.2.2.1.1
  have bgE := fun m => yp_m_begins B (yp_m0 B m) k
  obtain ⟨g5, g6⟩ := g3
  rcases g6 with ⟨y0, m, rfl, F, g7, g8, g9, g10⟩ | ⟨y0, y1, m, rfl, F, g7⟩
  · have u1 := yp_aCN (yp_sa21 B) (yp_sa18 B) m 0 0 8 (by omega) (by omega) (by omega) (by omega)
    obtain ⟨ma, hma⟩ : ∃ ma, ma = cpy2 m (B + 21) (B + 18) 0 0 8 := ⟨_, rfl⟩
    rw [← hma] at u1
    have u2 := yp_aCN (yp_sa22 B) (yp_sa19 B) ma 0 0 8 (by omega) (by omega) (by omega) (by omega)
    obtain ⟨mb, hmb⟩ : ∃ mb, mb = cpy2 ma (B + 22) (B + 19) 0 0 8 := ⟨_, rfl⟩
    rw [← hmb] at u2
    have u3 : mb (B + 20) 2 = yp_N y.2.2.2.1 := by rw [hmb, yp_cpy_n _ (by omega), hma, yp_cpy_n _ (by omega)]; exact g8
    have u4 : up2 mb (B + 17) 2 (yp_N y.2.2.2.1) (B + 17) 2 = yp_N y.2.2.2.1 := yp_up2_s _ _ _ _
    have G : ∀ a j, a ≠ B + 17 → a ≠ B + 18 → a ≠ B + 19 → up2 mb (B + 17) 2 (yp_N y.2.2.2.1) a j = m a j := fun a j q1 q2 q3 => by rw [yp_up2_n _ _ (by omega), hmb, yp_cpy_n _ q3, hma, yp_cpy_n _ q2]
    have G0 : ∀ a j, a ≠ B + 17 → a ≠ B + 18 → a ≠ B + 19 → a ≠ B + 1 → a ≠ B + 20 → a ≠ B + 21 → a ≠ B + 22 → up2 mb (B + 17) 2 (yp_N y.2.2.2.1) a j = mm a j := fun a j q1 q2 q3 q4 q5 q6 q7 => by
      rw [G a j q1 q2 q3, F a j (by unfold yp_TBk; omega), n1' a j q5, yp_opn_n (by omega)]
    have x1 : yp_RCc B (fun a j => if a = B + 17 ∨ a = B + 18 ∨ a = B + 19 then mm a j else up2 mb (B + 17) 2 (yp_N y.2.2.2.1) a j) (yp_txA A (-yp_N 1)) := by
      refine hR.tx hI (fun a j h1 h2 => ?_) ?_ ?_
      · by_cases e : a = B + 17 ∨ a = B + 18 ∨ a = B + 19
        · exact if_pos e
        · exact (if_neg e).trans (G0 a j (by omega) (by omega) (by omega) h2 (by unfold yp_KC at h1; omega) (by unfold yp_KC at h1; omega) (by unfold yp_KC at h1; omega))
      · refine (if_neg (by omega)).trans ?_
        rw [G _ _ (by omega) (by omega) (by omega), F _ _ (by unfold yp_TBk; omega), n1' _ _ (by omega), o1]
      · refine (if_neg (by omega)).trans ?_
        rw [G _ _ (by omega) (by omega) (by omega)]
        exact congrArg Prod.snd g7
    have x2 := x1.bk (m := up2 mb (B + 17) 2 (yp_N y.2.2.2.1)) (hI.tx (-yp_N 1)) (i := y.2.2.2.1) (L := y.2.2.2.2) (fun a j h1 h2 h3 h4 => (if_neg (by omega)).symm) u4 (fun l hl => ⟨by
      rw [yp_up2_n _ _ (by omega), hmb, yp_cpy_n _ (by omega), hma, yp_cpy_v _ _ _ _ _ (by omega)]; exact (g10 l hl).1, by
      rw [yp_up2_n _ _ (by omega), hmb, yp_cpy_v _ _ _ _ _ (by omega), hma, yp_cpy_n _ (by omega)]; exact (g10 l hl).2⟩)
    refine yp_PM_x (A := A) ((hI.tx (-yp_N 1)).bk g9 g4) (v := yp_N y.2.2.2.1) ?_ x2 (fun a j ha => G0 a j (by omega) (by omega) (by omega) (by omega) (by omega) (by omega) (by omega)) (fun m' hm => ?_)
    · simp (disch := omega) only [fX11_book, fX0_read, fX0_read_j41, fX0_copyFrom, hA, hS, hB, s1, ↓yp_smLN, ↓yp_smRN, w7, ← hm1, g1, Sum.elim, u1, u2, u3, u4, Nat.reduceAdd, Nat.reduceMul, Nat.reduceSub, Nat.zero_add, Nat.add_zero, yp_LT, yp_nA, yp_nM, yp_ltF, yp_ltT, yp_leF, yp_leT, yp_eqF, eq_self, yp_eqM, yp_lt1N, yp_sbN, yp_sb2N, ↓reduceIte, ↓yp_iP11, ↓yp_iP12, ↓yp_m0P]
    · have hm0 := yp_m0R hm
      obtain ⟨r', q1, q2⟩ := goM m' hm
      obtain ⟨p1, p2, p3, p4, p5, p6⟩ := yp_beg_v B (yp_m0 B m') k
      rcases q2 with ⟨_, m2, rfl, F2, j1, j2, j3⟩ | ⟨q2, _⟩
      · have e1 := yp_m_res1 j1 (yp_N y.2.2.2.1)
        have e2 : up2 m2 (B + 517) 8 (-yp_N 1) (B + 517) 5 = -yp_N 1 := by rw [yp_up2_n _ _ (by omega)]; exact j1
        obtain ⟨m3, hm3⟩ : ∃ m3, m3 = up2 (up2 m2 (B + 517) 8 (-yp_N 1)) (B + 517) 42 (yp_N y.2.2.2.1) := ⟨_, rfl⟩
        have e3 := yp_c_copies (x0 := B + 517) m3 (yp_sa536 B) (yp_sa537 B) 16 (by omega) (by omega) (show B + 536 ≠ B + 537 by omega) (by omega)
        obtain ⟨m4, hm4⟩ : ∃ m4 : Mem, m4 = fun c j => if c = B + 537 ∧ j < 16 then m3 (B + 536) j else m3 c j := ⟨_, rfl⟩
        rw [← hm4] at e3
        have G4 : ∀ a j, a ≠ B + 537 → m4 a j = m3 a j := fun a j h => by rw [hm4]; exact if_neg (fun q => h q.1)
        have G3 : ∀ a j, ¬ (a = B + 517 ∧ (j = 8 ∨ j = 42)) → m3 a j = m2 a j := fun a j h => by rw [hm3, yp_up2_n _ _ (by omega), yp_up2_n _ _ (by omega)]
        have Gb : ∀ a j, a ≠ B + 537 → a ≠ B + 536 → ¬ (a = B + 517 ∧ (j = 0 ∨ j = 2 ∨ j = 3 ∨ j = 4 ∨ j = 5 ∨ j = 6 ∨ j = 7 ∨ j = 8 ∨ j = 42)) → m4 a j = m' a j := fun a j q1 q2 q3 => by
          rw [G4 a j q1, G3 a j (by omega), F2 a j (by unfold yp_TBm; omega), yp_beg_n (by omega), yp_m0n (by omega)]
        have z1 : yp_RMm B (fun a j => if (a = B + 517 ∧ j = 42) ∨ a = B + 537 then m' a j else m4 a j) (yp_txA A (-yp_N 1)) := by
          refine hm.tx (fun a j h1 h2 => ?_) ?_ ?_
          · by_cases e : (a = B + 517 ∧ j = 42) ∨ a = B + 537
            · exact if_pos e
            · exact (if_neg e).trans (Gb a j (by omega) (by unfold yp_KM at h1; omega) (by unfold yp_KM at h1; omega))
          · refine (if_neg (by omega)).trans ?_
            rw [G4 _ _ (by omega), G3 _ _ (by omega), F2 _ _ (by unfold yp_TBm; omega), p1]
          · refine (if_neg (by omega)).trans ?_
            rw [G4 _ _ (by omega), hm3, yp_up2_n _ _ (by omega), yp_up2_s]
        refine ⟨m4, ?_, z1.bk (i := y.2.2.2.1) (L := y.2.2.2.2) (fun a j h1 h2 h3 => (if_neg (by omega)).symm) ?_ (fun l hl => ?_), ?_, fun a j ha => Gb a j (by omega) (by omega) (by omega)⟩
        · simp (disch := omega) only [fX12_book_j156, fX12_book_j125, fX12_book_j102, fX12_book_j29, fX12_book_j28, fX12_book, hM, hU, yp_m0e, eM m' hm, yp_mayG, bgE, q1, Sum.elim, e1, e2, ← hm3, e3, Nat.reduceAdd, Nat.reduceMul, Nat.reduceSub, Nat.zero_add, Nat.add_zero, yp_LT, yp_nA, yp_nM, yp_ltF, yp_ltT, yp_leF, yp_leT, yp_eqF, eq_self, yp_eqM, yp_lt1N, yp_sbN, yp_sb2N, ↓reduceIte, ↓yp_iP11, ↓yp_iP12, ↓yp_m0P]
        · rw [G4 _ _ (by omega), hm3, yp_up2_s]
        · have hl8 : l < 8 := Nat.lt_of_lt_of_le hl j2
          have a1 : m4 (B + 537) (2 * l) = m3 (B + 536) (2 * l) := by rw [hm4]; exact if_pos ⟨rfl, by omega⟩
          have a2 : m4 (B + 537) (2 * l + 1) = m3 (B + 536) (2 * l + 1) := by rw [hm4]; exact if_pos ⟨rfl, by omega⟩
          rw [a1, a2, G3 _ _ (by omega), G3 _ _ (by omega)]
          exact j3 l hl
        · rw [G4 _ _ (by omega), G3 _ _ (by omega), F2 _ _ (by unfold yp_TBm; omega), yp_beg_n (by omega), yp_m0t]
      · exact absurd y0 q2
  · have u1 : m (B + 1) 4 = yp_N y.1 := congrArg Prod.fst g7
    have u2 : m (B + 1) 5 = yp_N y.2.1 := congrArg Prod.snd g7
    refine yp_PM_f hR hI (k := y.1) (x := y.2.1) (m1 := m) ?_ (fun a j h1 h2 => ?_) ?_ u2 (fun m' hm => ?_)
    · simp (disch := omega) only [fX11_book, fX0_read, fX0_read_j33, hA, hT, hS, s1, ↓yp_smLN, ↓yp_smRN, w7, ← hm1, g1, Sum.elim, u1, Nat.reduceAdd, Nat.reduceMul, Nat.reduceSub, Nat.zero_add, Nat.add_zero, yp_LT, yp_nA, yp_nM, yp_ltF, yp_ltT, yp_leF, yp_leT, yp_eqF, eq_self, yp_eqM, yp_lt1N, yp_sbN, yp_sb2N, ↓reduceIte, ↓yp_iP11, ↓yp_iP12, ↓yp_m0P]
    · rw [F a j (by unfold yp_KC at h1; unfold yp_TBk; omega), n1' a j (by unfold yp_KC at h1; omega), yp_opn_n (by omega)]
    · rw [F _ _ (by unfold yp_TBk; omega), n1' _ _ (by omega), o1]
    · obtain ⟨r', q1, q2⟩ := goM m' hm
      obtain ⟨p1, p2, p3, p4, p5, p6⟩ := yp_beg_v B (yp_m0 B m') k
      rcases q2 with ⟨q2, _⟩ | ⟨_, v, m2, rfl, F2, j1, j2⟩
      · exact absurd q2 y0
      · have e1 := yp_m_res0 (by omega) j1 j2 v
        have e2 : up2 m2 (B + 517) 8 (yp_N y.2.1) (B + 517) 5 = yp_N y.2.1 := by rw [yp_up2_n _ _ (by omega)]; exact j1
        have e3 : (yp_N y.2.1 = -yp_N 1) = False := yp_eqM (by omega)
        refine ⟨up2 m2 (B + 517) 8 (yp_N y.2.1), ?_, fun a j h1 h2 => ?_, ?_, ?_, yp_up2_s _ _ _ _⟩
        · simp (disch := omega) only [fX12_book_j156, fX12_book_j125, fX12_book_j102, fX12_book_j29, fX12_book_j28, fX12_book, hM, hU, yp_m0e, eM m' hm, yp_mayG, bgE, q1, Sum.elim, e1, e2, e3, Nat.reduceAdd, Nat.reduceMul, Nat.reduceSub, Nat.zero_add, Nat.add_zero, yp_LT, yp_nA, yp_nM, yp_ltF, yp_ltT, yp_leF, yp_leT, yp_eqF, eq_self, yp_eqM, yp_lt1N, yp_sbN, yp_sb2N, ↓reduceIte, ↓yp_iP11, ↓yp_iP12, ↓yp_m0P]
        · rw [yp_up2_n _ _ (by unfold yp_KM at h1; omega), F2 a j (by unfold yp_KM at h1; unfold yp_TBm; omega), yp_beg_n (by unfold yp_KM at h1; omega), yp_m0_KM h1]
        · rw [yp_up2_n _ _ (by omega), F2 _ _ (by unfold yp_TBm; omega), yp_beg_n (by omega), yp_m0t]
        · rw [yp_up2_n _ _ (by omega), F2 _ _ (by unfold yp_TBm; omega), p1]
end PBOOK

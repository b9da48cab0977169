section FITS
variable {B : Nat} {mm : Mem} {A : yp_St}
set_option maxHeartbeats 1000000 in
set_option maxRecDepth 8192 in
theorem yp_sa461 (B i : Nat) (hi : i < 48) : yp_SH B (B + (461 + i)) = some (.inl 99) := by
  match i, hi with
  | 0, _ => exact (yp_SHat B 461).trans rfl
  | 1, _ => exact (yp_SHat B 462).trans rfl
  | 2, _ => exact (yp_SHat B 463).trans rfl
  | 3, _ => exact (yp_SHat B 464).trans rfl
  | 4, _ => exact (yp_SHat B 465).trans rfl
  | 5, _ => exact (yp_SHat B 466).trans rfl
  | 6, _ => exact (yp_SHat B 467).trans rfl
  | 7, _ => exact (yp_SHat B 468).trans rfl
  | 8, _ => exact (yp_SHat B 469).trans rfl
  | 9, _ => exact (yp_SHat B 470).trans rfl
  | 10, _ => exact (yp_SHat B 471).trans rfl
  | 11, _ => exact (yp_SHat B 472).trans rfl
  | 12, _ => exact (yp_SHat B 473).trans rfl
  | 13, _ => exact (yp_SHat B 474).trans rfl
  | 14, _ => exact (yp_SHat B 475).trans rfl
  | 15, _ => exact (yp_SHat B 476).trans rfl
  | 16, _ => exact (yp_SHat B 477).trans rfl
  | 17, _ => exact (yp_SHat B 478).trans rfl
  | 18, _ => exact (yp_SHat B 479).trans rfl
  | 19, _ => exact (yp_SHat B 480).trans rfl
  | 20, _ => exact (yp_SHat B 481).trans rfl
  | 21, _ => exact (yp_SHat B 482).trans rfl
  | 22, _ => exact (yp_SHat B 483).trans rfl
  | 23, _ => exact (yp_SHat B 484).trans rfl
  | 24, _ => exact (yp_SHat B 485).trans rfl
  | 25, _ => exact (yp_SHat B 486).trans rfl
  | 26, _ => exact (yp_SHat B 487).trans rfl
  | 27, _ => exact (yp_SHat B 488).trans rfl
  | 28, _ => exact (yp_SHat B 489).trans rfl
  | 29, _ => exact (yp_SHat B 490).trans rfl
  | 30, _ => exact (yp_SHat B 491).trans rfl
  | 31, _ => exact (yp_SHat B 492).trans rfl
  | 32, _ => exact (yp_SHat B 493).trans rfl
  | 33, _ => exact (yp_SHat B 494).trans rfl
  | 34, _ => exact (yp_SHat B 495).trans rfl
  | 35, _ => exact (yp_SHat B 496).trans rfl
  | 36, _ => exact (yp_SHat B 497).trans rfl
  | 37, _ => exact (yp_SHat B 498).trans rfl
  | 38, _ => exact (yp_SHat B 499).trans rfl
  | 39, _ => exact (yp_SHat B 500).trans rfl
  | 40, _ => exact (yp_SHat B 501).trans rfl
  | 41, _ => exact (yp_SHat B 502).trans rfl
  | 42, _ => exact (yp_SHat B 503).trans rfl
  | 43, _ => exact (yp_SHat B 504).trans rfl
  | 44, _ => exact (yp_SHat B 505).trans rfl
  | 45, _ => exact (yp_SHat B 506).trans rfl
  | 46, _ => exact (yp_SHat B 507).trans rfl
  | 47, _ => exact (yp_SHat B 508).trans rfl
  | n + 48, h => exact absurd h (by omega)
set_option maxHeartbeats 1000000 in
theorem yp_ar460 (B i : Nat) (hi : i < 48) : aR (yp_SH B) (B + 460) (yp_N i) = some (B + (461 + i)) := by
  rw [yp_aRN (yp_st460 B) (by omega) hi (by omega)]
  match i, hi with
  | 0, _ => rfl
  | 1, _ => rfl
  | 2, _ => rfl
  | 3, _ => rfl
  | 4, _ => rfl
  | 5, _ => rfl
  | 6, _ => rfl
  | 7, _ => rfl
  | 8, _ => rfl
  | 9, _ => rfl
  | 10, _ => rfl
  | 11, _ => rfl
  | 12, _ => rfl
  | 13, _ => rfl
  | 14, _ => rfl
  | 15, _ => rfl
  | 16, _ => rfl
  | 17, _ => rfl
  | 18, _ => rfl
  | 19, _ => rfl
  | 20, _ => rfl
  | 21, _ => rfl
  | 22, _ => rfl
  | 23, _ => rfl
  | 24, _ => rfl
  | 25, _ => rfl
  | 26, _ => rfl
  | 27, _ => rfl
  | 28, _ => rfl
  | 29, _ => rfl
  | 30, _ => rfl
  | 31, _ => rfl
  | 32, _ => rfl
  | 33, _ => rfl
  | 34, _ => rfl
  | 35, _ => rfl
  | 36, _ => rfl
  | 37, _ => rfl
  | 38, _ => rfl
  | 39, _ => rfl
  | 40, _ => rfl
  | 41, _ => rfl
  | 42, _ => rfl
  | 43, _ => rfl
  | 44, _ => rfl
  | 45, _ => rfl
  | 46, _ => rfl
  | 47, _ => rfl
  | n + 48, h => exact absurd h (by omega)
set_option maxHeartbeats 1000000 in
theorem yp_aN460 (B : Nat) : aN (yp_SH B) (B + 460) = some (yp_N 48) := by rw [aN, yp_st460]; rfl
set_option maxHeartbeats 1000000 in
theorem yp_bokS (B : Nat) : rR (yp_SH B) 0 (B + 17) 0 = some (B + 18) ∧ rR (yp_SH B) 0 (B + 17) 1 = some (B + 19) ∧ isO (yp_SH B) 0 (B + 17) = some () ∧ (∀ mm k, rI (yp_SH B) mm 0 (B + 17) k = some (mm (B + 17) k)) ∧ (∀ mm k, k < 8 → aL (yp_SH B) mm (B + 18) (yp_N k) = some (mm (B + 18) k)) ∧ (∀ mm k, k < 8 → aL (yp_SH B) mm (B + 19) (yp_N k) = some (mm (B + 19) k)) := by
  refine ⟨?_, ?_, ?_, ?_, fun mm k h => yp_aLN (yp_sa18 B) mm k h (by omega), fun mm k h => yp_aLN (yp_sa19 B) mm k h (by omega)⟩
  · rw [rR, yp_so17]; rfl
  · rw [rR, yp_so17]; rfl
  · rw [isO, yp_so17]; rfl
  · intro mm k; rw [rI, yp_so17]; rfl
noncomputable def yp_pH (Q : yp_EnvT) (H : Nat → Int32) (f g : Nat) : Nat → Int32 := @ite _ (yp_doesP Q H f g) (Classical.propDecidable _) (yp_prt Q H f g) H
set_option maxHeartbeats 1000000 in
theorem yp_pH1 {Q : yp_EnvT} {H : Nat → Int32} {f g : Nat} (h : yp_doesP Q H f g) : yp_pH Q H f g = yp_prt Q H f g := by unfold yp_pH; exact if_pos h
set_option maxHeartbeats 1000000 in
theorem yp_pH0 {Q : yp_EnvT} {H : Nat → Int32} {f g : Nat} (h : ¬ yp_doesP Q H f g) : yp_pH Q H f g = H := by unfold yp_pH; exact if_neg h
set_option maxHeartbeats 1000000 in
theorem yp_HI.pH {Q : yp_EnvT} {H : Nat → Int32} (hE : yp_EV Q) (hH : yp_HI Q H) (f g : Nat) (hf : f < 6) : yp_HI Q (yp_pH Q H f g) := by
  by_cases h : yp_doesP Q H f g
  · rw [yp_pH1 h]; exact hH.prt hE f g hf
  · rw [yp_pH0 h]; exact hH
noncomputable def yp_rowV (A : yp_St) (p : Nat × Nat) (x : Int32) : Int32 := yp_fo (yp_apG (yp_pH (yp_sQ A) (yp_sH A) p.1 p.2) x) 42 (yp_N 0)
def yp_okR (A : yp_St) (f g : Nat) : Prop := ∀ i, i < yp_sL A → yp_rowV A (f, g) (yp_sLp A i) = yp_sLm A i
abbrev yp_Prs : Type := Nat × (Nat → Nat × Nat)
noncomputable def yp_ftG (A : yp_St) (f g : Nat) (s : yp_Prs) : yp_Prs := @ite _ (yp_qk (yp_sQ A) g = yp_N 0 ∧ yp_okR A f g) (Classical.propDecidable _) (s.1 + 1, fun i => if i = s.1 then (f, g) else s.2 i) s
set_option maxHeartbeats 1000000 in
theorem yp_ftG1 {f g : Nat} {s : yp_Prs} (h : yp_qk (yp_sQ A) g = yp_N 0 ∧ yp_okR A f g) : yp_ftG A f g s = (s.1 + 1, fun i => if i = s.1 then (f, g) else s.2 i) := by unfold yp_ftG; exact if_pos h
set_option maxHeartbeats 1000000 in
theorem yp_ftG0 {f g : Nat} {s : yp_Prs} (h : ¬ (yp_qk (yp_sQ A) g = yp_N 0 ∧ yp_okR A f g)) : yp_ftG A f g s = s := by unfold yp_ftG; exact if_neg h
noncomputable def yp_ftF (A : yp_St) (f : Nat) (s : yp_Prs) : yp_Prs := yp_fo (yp_ftG A f) (yp_qg (yp_sQ A)) s
noncomputable def yp_ftL (A : yp_St) : yp_Prs := yp_fo (yp_ftF A) (yp_qf (yp_sQ A)) (0, fun _ => (0, 0))
def yp_prO (A : yp_St) (n : Nat) (s : yp_Prs) : Prop := s.1 ≤ n ∧ ∀ i, i < s.1 → (s.2 i).1 < yp_qf (yp_sQ A) ∧ (s.2 i).2 < yp_qg (yp_sQ A)
set_option maxHeartbeats 1000000 in
theorem yp_prO_s {f g n : Nat} {s : yp_Prs} (h : yp_prO A n s) (hf : f < yp_qf (yp_sQ A)) (hg : g < yp_qg (yp_sQ A)) : yp_prO A (n + 1) (yp_ftG A f g s) := by
  by_cases e : yp_qk (yp_sQ A) g = yp_N 0 ∧ yp_okR A f g
  · rw [yp_ftG1 e]
    refine ⟨by show s.1 + 1 ≤ n + 1; have := h.1; omega, fun i hi => ?_⟩
    have hi : i < s.1 + 1 := hi
    show ((if i = s.1 then (f, g) else s.2 i) : Nat × Nat).1 < _ ∧ ((if i = s.1 then (f, g) else s.2 i) : Nat × Nat).2 < _
    split
    · exact ⟨hf, hg⟩
    · exact h.2 i (by omega)
  · rw [yp_ftG0 e]
    exact ⟨by have := h.1; omega, h.2⟩
def yp_FK (B : Nat) (m : Mem) (A : yp_St) (s : yp_Prs) : Prop := m (B + 453) 6 = yp_N s.1 ∧ m (B + 453) 7 = (if s.1 = 0 then -yp_N 1 else yp_N (10 * (s.2 0).1 + (s.2 0).2)) ∧ ∀ i, i < s.1 → ∀ x, x < 99 → m (B + (461 + i)) x = yp_rowV A (s.2 i) (yp_N x)
def yp_TG (B : Nat) : Nat → Nat → Prop := fun a j => a = B + 13 ∨ a = B + 24 ∨ a = B + 25 ∨ (B + 454 ≤ a ∧ a ≤ B + 459) ∨ (B + 461 ≤ a ∧ a ≤ B + 508) ∨ (a = B + 453 ∧ (j = 6 ∨ j = 7))
set_option maxHeartbeats 1000000 in
theorem yp_c_right {m : Mem} (hI : yp_INV A) (hL : m (B + 17) 2 = yp_N (yp_sL A)) (hp : ∀ i, i < yp_sL A → m (B + 18) i = yp_sLp A i) (hm : ∀ i, i < yp_sL A → m (B + 19) i = yp_sLm A i) (r : Nat) (hr : r < 48) (f g : Nat) (hrow : ∀ x, x < 99 → m (B + (461 + r)) x = yp_rowV A (f, g) (yp_N x)) : (yp_okR A f g ∧ fX0_isRight (yp_SH B) (B + 17) (B + (461 + r)) m = some (yp_N 1)) ∨ (¬ yp_okR A f g ∧ fX0_isRight (yp_SH B) (B + 17) (B + (461 + r)) m = some (yp_N 0)) := by
  have hB := yp_bokS B
  have hS := yp_sa461 B r hr
  have i8 := hI.2.2.2.2.1
  have hw := hI.1.2.2.2.1
  have e9 : aN (yp_SH B) (B + (461 + r)) = some (yp_N 99) := by rw [aN, hS]; rfl
  obtain ⟨x, h1, h2⟩ := yp_lpI (step := fun st : Int32 => fX0_isRight_b2 (yp_SH B) (B + 17) (B + (461 + r)) st m) (fun k st => st = yp_N k ∧ ∀ i, i < k → yp_rowV A (f, g) (yp_sLp A i) = yp_sLm A i) (fun x => (yp_okR A f g ∧ x = Sum.inr ()) ∨ (¬ yp_okR A f g ∧ x = Sum.inl ())) (yp_sL A) (fun k st hk hJ => by
    obtain ⟨rfl, hJ⟩ := hJ
    by_cases e : k = yp_sL A
    · subst e
      exact .inr ⟨_, by simp (disch := omega) only [fX0_isRight_b2, hB, hL, Nat.reduceAdd, Nat.reduceMul, Nat.reduceSub, Nat.zero_add, Nat.add_zero, yp_LT, yp_nA, yp_nM, yp_ltF, yp_ltT, yp_leF, yp_leT, yp_eqF, eq_self, yp_eqM, yp_lt1N, yp_sbN, yp_sb2N, ↓reduceIte, ↓yp_iP11, ↓yp_iP12, ↓yp_m0P], .inl ⟨hJ, rfl⟩⟩
    · have e1 := hp k (by omega)
      have e2 := hm k (by omega)
      have e3 := i8.2 k (by omega)
      obtain ⟨p, e4, e5, e6⟩ := yp_ofN e3.1
      have e7 := hrow p (by omega)
      have e8 := yp_aLN hS m p (by omega) (by omega)
      rw [e7] at e8
      rw [e4] at e1
      by_cases c : yp_rowV A (f, g) (yp_sLp A k) = yp_sLm A k
      · refine .inl ⟨by omega, yp_N (k + 1), ?_, rfl, fun i hi => ?_⟩
        · rw [e4] at c
          simp (disch := omega) only [fX0_isRight_b2, hB, hL, e1, e2, e9, e8, c, Nat.reduceAdd, Nat.reduceMul, Nat.reduceSub, Nat.zero_add, Nat.add_zero, yp_LT, yp_nA, yp_nM, yp_ltF, yp_ltT, yp_leF, yp_leT, yp_eqF, eq_self, yp_eqM, yp_lt1N, yp_sbN, yp_sb2N, ↓reduceIte, ↓yp_iP11, ↓yp_iP12, ↓yp_m0P]
        · by_cases e10 : i = k
          · rw [e10]; exact c
          · exact hJ i (by omega)
      · refine .inr ⟨Sum.inl (), ?_, .inr ⟨fun h => c (h k (by omega)), rfl⟩⟩
        rw [e4] at c
        simp (disch := omega) only [fX0_isRight_b2, hB, hL, e1, e2, e9, e8, c, Nat.reduceAdd, Nat.reduceMul, Nat.reduceSub, Nat.zero_add, Nat.add_zero, yp_LT, yp_nA, yp_nM, yp_ltF, yp_ltT, yp_leF, yp_leT, yp_eqF, eq_self, yp_eqM, yp_lt1N, yp_sbN, yp_sb2N, ↓reduceIte, ↓yp_iP11, ↓yp_iP12, ↓yp_m0P]) (show yp_sL A < FU by rw [yp_FUe]; omega) (s0 := yp_N 0) ⟨rfl, fun i hi => absurd hi (Nat.not_lt_zero i)⟩
  rcases h2 with ⟨h2, rfl⟩ | ⟨h2, rfl⟩
  · exact .inl ⟨h2, by simp (disch := omega) only [fX0_isRight_j47, fX0_isRight_j39, fX0_isRight, h1, Sum.elim, Nat.reduceAdd, Nat.reduceMul, Nat.reduceSub, Nat.zero_add, Nat.add_zero, yp_LT, yp_nA, yp_nM, yp_ltF, yp_ltT, yp_leF, yp_leT, yp_eqF, eq_self, yp_eqM, yp_lt1N, yp_sbN, yp_sb2N, ↓reduceIte, ↓yp_iP11, ↓yp_iP12, ↓yp_m0P]⟩
  · exact .inr ⟨h2, by simp (disch := omega) only [fX0_isRight_j47, fX0_isRight_j39, fX0_isRight, h1, Sum.elim, Nat.reduceAdd, Nat.reduceMul, Nat.reduceSub, Nat.zero_add, Nat.add_zero, yp_LT, yp_nA, yp_nM, yp_ltF, yp_ltT, yp_leF, yp_leT, yp_eqF, eq_self, yp_eqM, yp_lt1N, yp_sbN, yp_sb2N, ↓reduceIte, ↓yp_iP11, ↓yp_iP12, ↓yp_m0P]⟩
set_option maxHeartbeats 1000000 in
theorem yp_c_row {m : Mem} {K : Nat → Int32} {Q : yp_EnvT} (hE : yp_EV Q) (hK : yp_HI Q K) (hH : yp_HC m (B + 454) K) (r : Nat) (hr : r < 48) (h0 : ∀ x, x < 99 → m (B + (461 + r)) x = yp_N 0) : ∃ m', loopN (fun st : Int32 × Mem => fX6_fitsBook_b56 (yp_SH B) (B + 453) (B + (461 + r)) st.1 st.2) FU (yp_N 0, m) = some m' ∧ (∀ x, x < 99 → m' (B + (461 + r)) x = yp_fo (yp_apG K (yp_N x)) 42 (yp_N 0)) ∧ yp_Fr (fun a _ => a = B + (461 + r)) m m' := by
  have hP := yp_prS B
  have hX := yp_HSx (yp_hs454 B)
  have hS := yp_sa461 B r hr
  have hw := hE.2.2.2.1
  obtain ⟨m', h1, h2, h3⟩ := yp_lpI (step := fun st : Int32 × Mem => fX6_fitsBook_b56 (yp_SH B) (B + 453) (B + (461 + r)) st.1 st.2) (fun k st => ∃ m1, st = (yp_N k, m1) ∧ (∀ x, x < 99 → m1 (B + (461 + r)) x = yp_fo (yp_apG K (yp_N x)) k (yp_N 0)) ∧ yp_Fr (fun a _ => a = B + (461 + r)) m m1) (fun m1 => (∀ x, x < 99 → m1 (B + (461 + r)) x = yp_fo (yp_apG K (yp_N x)) 42 (yp_N 0)) ∧ yp_Fr (fun a _ => a = B + (461 + r)) m m1) 42 (fun k st hk hJ => by
    obtain ⟨m1, rfl, j1, j2⟩ := hJ
    by_cases e : k = 42
    · subst e
      exact .inr ⟨m1, by simp (disch := omega) only [fX6_fitsBook_b56, Nat.reduceAdd, Nat.reduceMul, Nat.reduceSub, Nat.zero_add, Nat.add_zero, yp_LT, yp_nA, yp_nM, yp_ltF, yp_ltT, yp_leF, yp_leT, yp_eqF, eq_self, yp_eqM, yp_lt1N, yp_sbN, yp_sb2N, ↓reduceIte, ↓yp_iP11, ↓yp_iP12, ↓yp_m0P], j1, j2⟩
    · have e3 := (hK.1 k (by omega)).2.2.2
      obtain ⟨p, e4, e5, e6⟩ := yp_ofN e3.1
      have a1 : m1 (B + 454 + 3) k = yp_N p := (j2 _ _ (by omega)).trans ((hH.2.2.1 k (by omega)).trans e4)
      have a2 : m1 (B + 454 + 2) k = K (42 + k) := (j2 _ _ (by omega)).trans (hH.2.1 k (by omega))
      have a3 := yp_aLN hS m1 p (by omega) (by omega)
      rw [j1 p (by omega)] at a3
      have a4 := yp_aSN hS m1 p (yp_fo (yp_apG K (yp_N p)) k (yp_N 0) + K (42 + k)) (by omega) (by omega)
      refine .inl ⟨by omega, (yp_N (k + 1), up2 m1 (B + (461 + r)) p (yp_fo (yp_apG K (yp_N p)) k (yp_N 0) + K (42 + k))), ?_, _, rfl, fun x hx => ?_, j2.up rfl⟩
      · simp (disch := omega) only [fX6_fitsBook_b56, fX6_fitsBook_j105, hP, hX, a1, a2, a3, a4, Nat.reduceAdd, Nat.reduceMul, Nat.reduceSub, Nat.zero_add, Nat.add_zero, yp_LT, yp_nA, yp_nM, yp_ltF, yp_ltT, yp_leF, yp_leT, yp_eqF, eq_self, yp_eqM, yp_lt1N, yp_sbN, yp_sb2N, ↓reduceIte, ↓yp_iP11, ↓yp_iP12, ↓yp_m0P]
      · rw [yp_fo_s]
        by_cases e7 : x = p
        · rw [e7, yp_up2_s]
          unfold yp_apG
          rw [if_pos e4]
        · rw [yp_up2_n _ _ (by omega), j1 x hx]
          generalize yp_fo (yp_apG K (yp_N x)) k (yp_N 0) = z
          unfold yp_apG
          rw [if_neg (by rw [e4, yp_eqN e6 (by omega)]; exact fun h => e7 h.symm)]
          exact (Int32.add_zero _).symm) (show 42 < FU by rw [yp_FUe]; omega) (s0 := (yp_N 0, m)) ⟨m, rfl, fun x hx => h0 x hx, yp_Fr.rf⟩
  exact ⟨m', h1, h2, h3⟩
end FITS

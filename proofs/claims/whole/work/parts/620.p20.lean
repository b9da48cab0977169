section ASK4
variable {B : Nat} {mm : Mem} {A : yp_St}
def yp_fiG (H : Nat → Int32) (f k : Nat) (s : Option Nat) : Option Nat := if H (42 + (f * 7 + k)) ≤ yp_N 0 then s else match s with
  | none => some k
  | some b => if H (84 + (f * 7 + b)) ≤ H (84 + (f * 7 + k)) then some b else some k
set_option maxHeartbeats 1000000 in
theorem yp_fi_inv {Q : yp_EnvT} {H : Nat → Int32} (hH : yp_HI Q H) (f : Nat) (hf : f < 6) : ∀ n, n ≤ 7 → (yp_fo (yp_fiG H f) n none = none ∧ yp_fo (yp_lpG H f) n (-yp_N 1) = -yp_N 1 ∧ ∀ j, j < n → H (42 + (f * 7 + j)) ≤ yp_N 0) ∨ (∃ b, b < n ∧ yp_fo (yp_fiG H f) n none = some b ∧ yp_fo (yp_lpG H f) n (-yp_N 1) = H (84 + (f * 7 + b)) ∧ ¬ H (42 + (f * 7 + b)) ≤ yp_N 0 ∧ (∀ j, j < b → ¬ H (42 + (f * 7 + j)) ≤ yp_N 0 → ¬ H (84 + (f * 7 + j)) = H (84 + (f * 7 + b))) ∧ (∀ j, j < n → ¬ H (42 + (f * 7 + j)) ≤ yp_N 0 → H (84 + (f * 7 + b)) ≤ H (84 + (f * 7 + j)))) := by
  intro n
  induction n with
  | zero => intro _; exact .inl ⟨rfl, rfl, fun j hj => absurd hj (Nat.not_lt_zero j)⟩
  | succ n ih =>
    intro hn
    rw [yp_fo_s, yp_fo_s]
    rcases ih (by omega) with ⟨h1, h2, h3⟩ | ⟨b, hb, h1, h2, h3, h4, h5⟩
    · rw [h1, h2]
      unfold yp_fiG yp_lpG
      by_cases e : H (42 + (f * 7 + n)) ≤ yp_N 0
      · rw [if_pos e, if_pos e]
        refine .inl ⟨rfl, rfl, fun j hj => ?_⟩
        by_cases e2 : j = n
        · rw [e2]; exact e
        · exact h3 j (by omega)
      · rw [if_neg e, if_neg e, if_pos rfl]
        refine .inr ⟨n, by omega, rfl, rfl, e, fun j hj h => absurd (h3 j hj) h, fun j hj h => ?_⟩
        by_cases e2 : j = n
        · rw [e2]; exact Int32.le_refl _
        · exact absurd (h3 j (by omega)) h
    · rw [h1, h2]
      have yp_n1 := hH.sp (f * 7 + b) (by omega)
      have yp_n2 : ¬ H (84 + (f * 7 + b)) = -yp_N 1 := fun h => by
        rw [h] at yp_n1
        exact absurd yp_n1 (by decide)
      unfold yp_fiG yp_lpG
      by_cases e : H (42 + (f * 7 + n)) ≤ yp_N 0
      · rw [if_pos e, if_pos e]
        refine .inr ⟨b, by omega, rfl, rfl, h3, h4, fun j hj h => ?_⟩
        by_cases e2 : j = n
        · rw [e2] at h; exact absurd e h
        · exact h5 j (by omega) h
      · rw [if_neg e, if_neg e, if_neg yp_n2]
        by_cases e3 : H (84 + (f * 7 + b)) ≤ H (84 + (f * 7 + n))
        · simp only [e3, if_true]
          refine .inr ⟨b, by omega, rfl, rfl, h3, h4, fun j hj h => ?_⟩
          by_cases e2 : j = n
          · rw [e2]; exact e3
          · exact h5 j (by omega) h
        · simp only [e3, if_false]
          have e4 := Int32.not_le.mp e3
          refine .inr ⟨n, by omega, rfl, rfl, e, fun j hj h h9 => ?_, fun j hj h => ?_⟩
          · have h6 := h5 j hj h
            rw [h9] at h6
            exact e3 h6
          · by_cases e2 : j = n
            · rw [e2]; exact Int32.le_refl _
            · exact Int32.le_trans (Int32.le_of_lt e4) (h5 j (by omega) h)
set_option maxHeartbeats 1000000 in
theorem yp_fi_g (H : Nat → Int32) (f : Nat) : ∀ k s b, yp_fiG H f k s = some b → s = some b ∨ b = k := by
  intro k s b h
  unfold yp_fiG at h
  split at h
  · left; exact h
  · cases s with
    | none => right; simp only at h; cases h; rfl
    | some c =>
      simp only at h
      split at h
      · left; exact h
      · right; cases h; rfl
set_option maxHeartbeats 1000000 in
theorem yp_p_first (hR : yp_RCc B mm A) (hI : yp_INV A) (x : Int32) : yp_PM B (fX11_first (yp_SH B) B x mm) (fun m => fX12_first (yp_SH B) (B + 517) x m) hcN mm A := by
  have hA := yp_clsS B
  have hX := yp_HSx (yp_hs33 B)
  have hM := yp_mS B
  have hH := hR.2.1
  have hq := hI.1.1
  rcases yp_c_needF hR hI x with ⟨f, hf, rfl, hc⟩ | ⟨hb, hc⟩
  rotate_left
  · exact yp_PM_e0 hR hI (by simp (disch := omega) only [fX11_first_j65, fX11_first_j57, fX11_first_j59, fX11_first, hA, ↓yp_bdP hc, ↓yp_smL, ↓yp_smR, Nat.reduceAdd, Nat.reduceMul, Nat.reduceSub, Nat.zero_add, Nat.add_zero, yp_LT, yp_nA, yp_nM, yp_ltF, yp_ltT, yp_leF, yp_leT, yp_eqF, eq_self, yp_eqM, lt1, yp_sbN, yp_sb2N, ↓reduceIte, ↓yp_iP11, ↓yp_iP12, ↓yp_m0P]) (fun m hm => by simp (disch := omega) only [fX12_first_j81, fX12_first_j75, fX12_first_j73, fX12_first, hM, yp_m0e, yp_m_isF0 hm hI hb, Nat.reduceAdd, Nat.reduceMul, Nat.reduceSub, Nat.zero_add, Nat.add_zero, yp_LT, yp_nA, yp_nM, yp_ltF, yp_ltT, yp_leF, yp_leT, yp_eqF, eq_self, yp_eqM, lt1, yp_sbN, yp_sb2N, ↓reduceIte, ↓yp_iP11, ↓yp_iP12, ↓yp_m0P]) rfl
  have hf6 : f < 6 := by omega
  refine yp_PM_st hR hI (v := yp_oN (yp_fo (yp_fiG (yp_sH A) f) 7 none)) ?_ (fun m hm hm0 => ?_)
  · simp (disch := omega) only [fX11_first_j65, fX11_first_j57, fX11_first_j59, fX11_first, hA, ↓yp_bdP hc, ↓yp_smL, ↓yp_smR, yp_h_least (yp_hs33 B) hH f hf6, Nat.reduceAdd, Nat.reduceMul, Nat.reduceSub, Nat.zero_add, Nat.add_zero, yp_LT, yp_nA, yp_nM, yp_ltF, yp_ltT, yp_leF, yp_leT, yp_eqF, eq_self, yp_eqM, lt1, yp_sbN, yp_sb2N, ↓reduceIte, ↓yp_iP11, ↓yp_iP12, ↓yp_m0P]
    rcases yp_fi_inv hI.2.1 f hf6 7 (by omega) with ⟨h1, h2, h3⟩ | ⟨b, hb, h1, h2, h3, h4, h5⟩
    · rw [h1, h2]
      obtain ⟨r, e1, rfl⟩ := yp_lpI (step := fun st : Int32 => fX11_first_b16 (yp_SH B) B (yp_N f) (-yp_N 1) st mm) (fun k st => st = yp_N k) (fun r => r = Sum.inr ()) 7 (fun k st hk hI => by
        subst hI
        by_cases e : k = 7
        · subst e
          exact .inr ⟨_, by simp (disch := omega) only [fX11_first_b16, Nat.reduceAdd, Nat.reduceMul, Nat.reduceSub, Nat.zero_add, Nat.add_zero, yp_LT, yp_nA, yp_nM, yp_ltF, yp_ltT, yp_leF, yp_leT, yp_eqF, eq_self, yp_eqM, lt1, yp_sbN, yp_sb2N, ↓reduceIte, ↓yp_iP11, ↓yp_iP12, ↓yp_m0P], rfl⟩
        · have e1 := hH.2.1 (f * 7 + k) (by omega)
          have e2 := h3 k (by omega)
          exact .inl ⟨by omega, yp_N (k + 1), by simp (disch := omega) only [fX11_first_b16, fX11_first_j59, hA, hX, e1, e2, Nat.reduceAdd, Nat.reduceMul, Nat.reduceSub, Nat.zero_add, Nat.add_zero, yp_LT, yp_nA, yp_nM, yp_ltF, yp_ltT, yp_leF, yp_leT, yp_eqF, eq_self, yp_eqM, lt1, yp_sbN, yp_sb2N, ↓reduceIte, ↓yp_iP11, ↓yp_iP12, ↓yp_m0P], rfl⟩) (show 7 < FU by rw [yp_FUe]; omega) (s0 := yp_N 0) rfl
      rw [e1]
      rfl
    · rw [h1, h2]
      obtain ⟨r, e1, rfl⟩ := yp_lpI (step := fun st : Int32 => fX11_first_b16 (yp_SH B) B (yp_N f) (yp_sH A (84 + (f * 7 + b))) st mm) (fun k st => st = yp_N k) (fun r => r = Sum.inl (yp_N b)) b (fun k st hk hI => by
        subst hI
        have e1 := hH.2.1 (f * 7 + k) (by omega)
        have e2 := hH.2.2.1 (f * 7 + k) (by omega)
        by_cases e : k = b
        · subst e
          exact .inr ⟨_, by simp (disch := omega) only [fX11_first_b16, fX11_first_j59, hA, hX, e1, e2, h3, Nat.reduceAdd, Nat.reduceMul, Nat.reduceSub, Nat.zero_add, Nat.add_zero, yp_LT, yp_nA, yp_nM, yp_ltF, yp_ltT, yp_leF, yp_leT, yp_eqF, eq_self, yp_eqM, lt1, yp_sbN, yp_sb2N, ↓reduceIte, ↓yp_iP11, ↓yp_iP12, ↓yp_m0P], rfl⟩
        · refine .inl ⟨by omega, yp_N (k + 1), ?_, rfl⟩
          by_cases e3 : yp_sH A (42 + (f * 7 + k)) ≤ yp_N 0
          · simp (disch := omega) only [fX11_first_b16, fX11_first_j59, hA, hX, e1, e2, e3, Nat.reduceAdd, Nat.reduceMul, Nat.reduceSub, Nat.zero_add, Nat.add_zero, yp_LT, yp_nA, yp_nM, yp_ltF, yp_ltT, yp_leF, yp_leT, yp_eqF, eq_self, yp_eqM, lt1, yp_sbN, yp_sb2N, ↓reduceIte, ↓yp_iP11, ↓yp_iP12, ↓yp_m0P]
          · have e4 := h4 k (by omega) e3
            simp (disch := omega) only [fX11_first_b16, fX11_first_j59, hA, hX, e1, e2, e3, e4, Nat.reduceAdd, Nat.reduceMul, Nat.reduceSub, Nat.zero_add, Nat.add_zero, yp_LT, yp_nA, yp_nM, yp_ltF, yp_ltT, yp_leF, yp_leT, yp_eqF, eq_self, yp_eqM, lt1, yp_sbN, yp_sb2N, ↓reduceIte, ↓yp_iP11, ↓yp_iP12, ↓yp_m0P]) (show b < FU by rw [yp_FUe]; omega) (s0 := yp_N 0) rfl
      rw [e1]
      rfl
  · have L2 : loopN (fun st : Int32 × Int32 => fX12_first_b20 (yp_SH B) (B + 517) (yp_N f) st.1 st.2 (yp_m0 B m)) FU (-yp_N 1, yp_N 0) = some (yp_oN (yp_fo (yp_fiG (yp_sH A) f) 7 none)) := by
      refine yp_lpF (fun k s => (yp_oN s, yp_N k)) (yp_fiG (yp_sH A) f) yp_oN 7 none (fun k z hk hz => ?_) (fun z hz => ?_) (by rw [yp_FUe]; omega) rfl
      · have e1 := hm0.2.1 (42 + (f * 7 + k)) (by omega)
        have e2 := hm0.2.1 (84 + (f * 7 + k)) (by omega)
        by_cases e : yp_sH A (42 + (f * 7 + k)) ≤ yp_N 0
        · simp (disch := omega) only [fX12_first_b20, fX12_first_j73, fX12_first_j75, hM, yp_m_in, e1, e, yp_fiG, Nat.reduceAdd, Nat.reduceMul, Nat.reduceSub, Nat.zero_add, Nat.add_zero, yp_LT, yp_nA, yp_nM, yp_ltF, yp_ltT, yp_leF, yp_leT, yp_eqF, eq_self, yp_eqM, lt1, yp_sbN, yp_sb2N, ↓reduceIte, ↓yp_iP11, ↓yp_iP12, ↓yp_m0P]
        · cases z with
          | none => simp (disch := omega) only [fX12_first_b20, fX12_first_j73, fX12_first_j75, hM, yp_m_in, e1, e, yp_oN, yp_fiG, Nat.reduceAdd, Nat.reduceMul, Nat.reduceSub, Nat.zero_add, Nat.add_zero, yp_LT, yp_nA, yp_nM, yp_ltF, yp_ltT, yp_leF, yp_leT, yp_eqF, eq_self, yp_eqM, lt1, yp_sbN, yp_sb2N, ↓reduceIte, ↓yp_iP11, ↓yp_iP12, ↓yp_m0P]
          | some b =>
            have hb := yp_fo_lt (yp_fi_g (yp_sH A) f) k b hz.symm
            have e3 := hm0.2.1 (84 + (f * 7 + b)) (by omega)
            simp (disch := omega) only [fX12_first_b20, fX12_first_j73, fX12_first_j75, hM, yp_m_in, e1, e2, e3, e, yp_oN, yp_fiG, Nat.reduceAdd, Nat.reduceMul, Nat.reduceSub, Nat.zero_add, Nat.add_zero, yp_LT, yp_nA, yp_nM, yp_ltF, yp_ltT, yp_leF, yp_leT, yp_eqF, eq_self, yp_eqM, lt1, yp_sbN, yp_sb2N, ↓reduceIte, ↓yp_iP11, ↓yp_iP12, ↓yp_m0P]
            by_cases e4 : yp_sH A (84 + (f * 7 + b)) ≤ yp_sH A (84 + (f * 7 + k))
            · simp only [e4, if_true]
            · simp only [e4, if_false]
      · simp (disch := omega) only [fX12_first_b20, Nat.reduceAdd, Nat.reduceMul, Nat.reduceSub, Nat.zero_add, Nat.add_zero, yp_LT, yp_nA, yp_nM, yp_ltF, yp_ltT, yp_leF, yp_leT, yp_eqF, eq_self, yp_eqM, lt1, yp_sbN, yp_sb2N, ↓reduceIte, ↓yp_iP11, ↓yp_iP12, ↓yp_m0P]
    simp (disch := omega) only [fX12_first_j81, fX12_first_j75, fX12_first_j73, fX12_first, hM, yp_m0e, yp_m_isF1 hm hI hf, L2, Nat.reduceAdd, Nat.reduceMul, Nat.reduceSub, Nat.zero_add, Nat.add_zero, yp_LT, yp_nA, yp_nM, yp_ltF, yp_ltT, yp_leF, yp_leT, yp_eqF, eq_self, yp_eqM, lt1, yp_sbN, yp_sb2N, ↓reduceIte, ↓yp_iP11, ↓yp_iP12, ↓yp_m0P]
def yp_TB (B : Nat) : Nat → Nat → Prop := fun a _ => a = B + 13 ∨ a = B + 24 ∨ a = B + 25 ∨ (B + 454 ≤ a ∧ a ≤ B + 459)
set_option maxHeartbeats 1000000 in
theorem yp_prS (B : Nat) : rR (yp_SH B) 6 (B + 453) 0 = some (B + 3) ∧ rR (yp_SH B) 6 (B + 453) 1 = some (B + 17) ∧ rR (yp_SH B) 6 (B + 453) 2 = some (B + 23) ∧ rR (yp_SH B) 6 (B + 453) 3 = some (B + 454) ∧ rR (yp_SH B) 6 (B + 453) 4 = some (B + 460) ∧ rR (yp_SH B) 6 (B + 453) 5 = some (B + 509) ∧ isO (yp_SH B) 6 (B + 453) = some () ∧ isO (yp_SH B) 2 (B + 454) = some () ∧ isO (yp_SH B) 5 (B + 23) = some () ∧ (∀ mm k, rI (yp_SH B) mm 6 (B + 453) k = some (mm (B + 453) k)) ∧ (∀ mm k v, wI (yp_SH B) mm 6 (B + 453) k v = some (up2 mm (B + 453) k v)) := by
  refine ⟨?_, ?_, ?_, ?_, ?_, ?_, ?_, (yp_HSx (yp_hs454 B)).1.2.1, ?_, ?_, ?_⟩
  all_goals first | (rw [rR, yp_so453]; rfl) | (rw [isO, yp_so453]; rfl) | (rw [isO, yp_so23]; rfl) | (intro mm k; rw [rI, yp_so453]; rfl) | (intro mm k v; rw [wI, yp_so453]; rfl)
set_option maxHeartbeats 1000000 in
theorem yp_c_pairs {m : Mem} {Q : yp_EnvT} {H : Nat → Int32} (hE : yp_EV Q) (hC : yp_CLc B m Q) (hH : yp_HC m (B + 33) H) (f g : Nat) (hf : f < 6) (hg : g < yp_qg Q) : ∃ m1 m2, fX2_copyFrom (yp_SH B) (B + 454) (B + 33) m = some m1 ∧ ((¬ yp_doesP Q H f g ∧ fX5_partBy (yp_SH B) (B + 23) (B + 454) (yp_N f) (yp_N g) m1 = some (yp_N 0, m2) ∧ yp_HC m2 (B + 454) H) ∨ (yp_doesP Q H f g ∧ fX5_partBy (yp_SH B) (B + 23) (B + 454) (yp_N f) (yp_N g) m1 = some (yp_N 1, m2) ∧ yp_HC m2 (B + 454) (yp_prt Q H f g))) ∧ yp_Fr (yp_TB B) m m2 := by
  obtain ⟨m1, e1, e2, e3⟩ := yp_h_copy (yp_hs454 B) (yp_hs33 B) hH (by omega)
  have hC1 : yp_CLc B m1 Q := hC.fr (fun a j h => e3 a j (by unfold yp_IH; omega))
  have f1 : yp_Fr (yp_TB B) m m1 := e3.mono (fun a j h => by unfold yp_IH at h; unfold yp_TB; omega)
  rcases yp_c_partBy hE hC1 (yp_hs454 B) e2 (by omega) f g hf hg with ⟨h1, h2⟩ | ⟨h1, m2, h2, h3, h4⟩
  · exact ⟨m1, m1, e1, .inl ⟨h1, h2, e2⟩, f1⟩
  · exact ⟨m1, m2, e1, .inr ⟨h1, h2, h3⟩, f1.tr (h4.mono (fun a j h => by unfold yp_TP at h; unfold yp_TB; omega))⟩
noncomputable def yp_blG (Q : yp_EnvT) (H : Nat → Int32) (f k : Nat) (a : Int32) : Int32 := @ite Int32 (yp_doesP Q H f k ∧ yp_blur (yp_prt Q H f k) f) (Classical.propDecidable _) (a ||| yp_b1 k) a
set_option maxHeartbeats 1000000 in
theorem yp_blG1 {Q : yp_EnvT} {H : Nat → Int32} {f k : Nat} (h : yp_doesP Q H f k ∧ yp_blur (yp_prt Q H f k) f) (a : Int32) : yp_blG Q H f k a = a ||| yp_b1 k := by
  unfold yp_blG; exact if_pos h
set_option maxHeartbeats 1000000 in
theorem yp_blG0 {Q : yp_EnvT} {H : Nat → Int32} {f k : Nat} (h : ¬ (yp_doesP Q H f k ∧ yp_blur (yp_prt Q H f k) f)) (a : Int32) : yp_blG Q H f k a = a := by
  unfold yp_blG; exact if_neg h
set_option maxHeartbeats 1000000 in
theorem yp_c_blursBy {m : Mem} {Q : yp_EnvT} {H : Nat → Int32} (hE : yp_EV Q) (hC : yp_CLc B m Q) (hH : yp_HC m (B + 33) H) (f g : Nat) (hf : f < 6) (hg : g < yp_qg Q) : ∃ m2, ((yp_doesP Q H f g ∧ yp_blur (yp_prt Q H f g) f) ∧ fX6_blursBy (yp_SH B) (B + 453) (B + 33) (yp_N f) (yp_N g) m = some (yp_N 1, m2) ∨ ¬ (yp_doesP Q H f g ∧ yp_blur (yp_prt Q H f g) f) ∧ fX6_blursBy (yp_SH B) (B + 453) (B + 33) (yp_N f) (yp_N g) m = some (yp_N 0, m2)) ∧ yp_Fr (yp_TB B) m m2 := by
  have hP := yp_prS B
  obtain ⟨m1, m2, e1, e2, e3⟩ := yp_c_pairs hE hC hH f g hf hg
  refine ⟨m2, ?_, e3⟩
  rcases e2 with ⟨h1, h2, h3⟩ | ⟨h1, h2, h3⟩
  · exact .inr ⟨fun h => h1 h.1, by simp (disch := omega) only [fX6_blursBy_j40, fX6_blursBy_j39, fX6_blursBy, hP, e1, h2, yp_ck0, Nat.reduceAdd, Nat.reduceMul, Nat.reduceSub, Nat.zero_add, Nat.add_zero, yp_LT, yp_nA, yp_nM, yp_ltF, yp_ltT, yp_leF, yp_leT, yp_eqF, eq_self, yp_eqM, lt1, yp_sbN, yp_sb2N, ↓reduceIte, ↓yp_iP11, ↓yp_iP12, ↓yp_m0P]⟩
  · obtain ⟨v, v1, ⟨rfl, v2⟩ | ⟨rfl, v2⟩⟩ := yp_h_blur (yp_hs454 B) h3 f hf
    · exact .inl ⟨⟨h1, v2⟩, by simp (disch := omega) only [fX6_blursBy_j40, fX6_blursBy_j39, fX6_blursBy, hP, e1, h2, v1, yp_ck1, Nat.reduceAdd, Nat.reduceMul, Nat.reduceSub, Nat.zero_add, Nat.add_zero, yp_LT, yp_nA, yp_nM, yp_ltF, yp_ltT, yp_leF, yp_leT, yp_eqF, eq_self, yp_eqM, lt1, yp_sbN, yp_sb2N, ↓reduceIte, ↓yp_iP11, ↓yp_iP12, ↓yp_m0P]⟩
    · exact .inr ⟨fun h => v2 h.2, by simp (disch := omega) only [fX6_blursBy_j40, fX6_blursBy_j39, fX6_blursBy, hP, e1, h2, v1, yp_ck0, Nat.reduceAdd, Nat.reduceMul, Nat.reduceSub, Nat.zero_add, Nat.add_zero, yp_LT, yp_nA, yp_nM, yp_ltF, yp_ltT, yp_leF, yp_leT, yp_eqF, eq_self, yp_eqM, lt1, yp_sbN, yp_sb2N, ↓reduceIte, ↓yp_iP11, ↓yp_iP12, ↓yp_m0P]⟩
set_option maxHeartbeats 1000000 in
theorem yp_FC.tb {m1 : Mem} (h : yp_Fr (yp_TB B) mm m1) : yp_FC B mm m1 := fun a j k => h a j (by unfold yp_KC at k; unfold yp_TB; omega)
set_option maxHeartbeats 1000000 in
theorem yp_FM.tq {m m2 : Mem} (h : yp_Fr (yp_TQ B) (yp_m0 B m) m2) : yp_FM B m m2 := fun a j k => h a j (by unfold yp_KM at k; unfold yp_TQ; omega)
set_option maxHeartbeats 1000000 in
theorem yp_p_blurs (hR : yp_RCc B mm A) (hI : yp_INV A) (x : Int32) : yp_PM B (fX11_blurs (yp_SH B) B x mm) (fun m => fX12_blurs (yp_SH B) (B + 517) x m) hcN mm A := by
  have hA := yp_clsS B
  have hP := yp_prS B
  have hM := yp_mS B
  have hq := hI.1.1
  have hq2 := hI.1.2.1
  rcases yp_c_needF hR hI x with ⟨f, hf, rfl, hc⟩ | ⟨hb, hc⟩
  rotate_left
  · exact yp_PM_e0 hR hI (by simp (disch := omega) only [fX11_blurs_j48, fX11_blurs_j42, fX11_blurs, hA, ↓yp_bdP hc, ↓yp_smL, ↓yp_smR, Nat.reduceAdd, Nat.reduceMul, Nat.reduceSub, Nat.zero_add, Nat.add_zero, yp_LT, yp_nA, yp_nM, yp_ltF, yp_ltT, yp_leF, yp_leT, yp_eqF, eq_self, yp_eqM, lt1, yp_sbN, yp_sb2N, ↓reduceIte, ↓yp_iP11, ↓yp_iP12, ↓yp_m0P]) (fun m hm => by simp (disch := omega) only [fX12_blurs_j65, fX12_blurs_j57, fX12_blurs_j56, fX12_blurs, hM, yp_m0e, yp_m_isF0 hm hI hb, Nat.reduceAdd, Nat.reduceMul, Nat.reduceSub, Nat.zero_add, Nat.add_zero, yp_LT, yp_nA, yp_nM, yp_ltF, yp_ltT, yp_leF, yp_leT, yp_eqF, eq_self, yp_eqM, lt1, yp_sbN, yp_sb2N, ↓reduceIte, ↓yp_iP11, ↓yp_iP12, ↓yp_m0P]) rfl
  have hf6 : f < 6 := by omega
  obtain ⟨r, h1, h2, h3⟩ := yp_lpI (step := fun st : Int32 × Int32 × Mem => fX11_blurs_b9 (yp_SH B) B (yp_N f) st.1 st.2.1 st.2.2) (fun k st => ∃ m, st = (yp_fo (yp_blG (yp_sQ A) (yp_sH A) f) k (yp_N 0), yp_N k, m) ∧ yp_Fr (yp_TB B) mm m) (fun r => r.1 = yp_fo (yp_blG (yp_sQ A) (yp_sH A) f) (yp_qg (yp_sQ A)) (yp_N 0) ∧ yp_Fr (yp_TB B) mm r.2) (yp_qg (yp_sQ A)) (fun k st hk hJ => by
    obtain ⟨m, rfl, hF⟩ := hJ
    have c1 : m (B + 3) 4 = yp_N (yp_qg (yp_sQ A)) := (hF _ _ (by unfold yp_TB; omega)).trans hR.1.2.1
    by_cases e : k = yp_qg (yp_sQ A)
    · subst e
      exact .inr ⟨(_, m), by simp (disch := omega) only [fX11_blurs_b9, hA, c1, Nat.reduceAdd, Nat.reduceMul, Nat.reduceSub, Nat.zero_add, Nat.add_zero, yp_LT, yp_nA, yp_nM, yp_ltF, yp_ltT, yp_leF, yp_leT, yp_eqF, eq_self, yp_eqM, lt1, yp_sbN, yp_sb2N, ↓reduceIte, ↓yp_iP11, ↓yp_iP12, ↓yp_m0P], rfl, hF⟩
    · have hC1 : yp_CLc B m (yp_sQ A) := hR.1.fr (fun a j h => hF a j (by unfold yp_TB; omega))
      have hH1 : yp_HC m (B + 33) (yp_sH A) := hR.2.1.same (fun a j h1 h2 => hF a j (by unfold yp_TB; omega))
      obtain ⟨m2, h1, h2⟩ := yp_c_blursBy hI.1 hC1 hH1 f k hf6 (by omega)
      refine .inl ⟨by omega, (yp_fo (yp_blG (yp_sQ A) (yp_sH A) f) (k + 1) (yp_N 0), yp_N (k + 1), m2), ?_, m2, rfl, hF.tr h2⟩
      rw [yp_fo_s]
      rcases h1 with ⟨h1, h3⟩ | ⟨h1, h3⟩
      · rw [yp_blG1 h1]
        simp (disch := omega) only [fX11_blurs_b9, fX11_blurs_j42, hA, hP, c1, h3, yp_b1, Nat.reduceAdd, Nat.reduceMul, Nat.reduceSub, Nat.zero_add, Nat.add_zero, yp_LT, yp_nA, yp_nM, yp_ltF, yp_ltT, yp_leF, yp_leT, yp_eqF, eq_self, yp_eqM, lt1, yp_sbN, yp_sb2N, ↓reduceIte, ↓yp_iP11, ↓yp_iP12, ↓yp_m0P]
      · rw [yp_blG0 h1]
        simp (disch := omega) only [fX11_blurs_b9, fX11_blurs_j42, hA, hP, c1, h3, yp_b1, Nat.reduceAdd, Nat.reduceMul, Nat.reduceSub, Nat.zero_add, Nat.add_zero, yp_LT, yp_nA, yp_nM, yp_ltF, yp_ltT, yp_leF, yp_leT, yp_eqF, eq_self, yp_eqM, lt1, yp_sbN, yp_sb2N, ↓reduceIte, ↓yp_iP11, ↓yp_iP12, ↓yp_m0P]) (show yp_qg (yp_sQ A) < FU by rw [yp_FUe]; omega) (s0 := (yp_N 0, yp_N 0, mm)) ⟨mm, rfl, yp_Fr.rf⟩
  refine yp_PM_v hR hI (v := yp_fo (yp_blG (yp_sQ A) (yp_sH A) f) (yp_qg (yp_sQ A)) (yp_N 0)) (m1 := r.2) ?_ (yp_FC.tb h3) (fun m hm => ?_)
  · simp (disch := omega) only [fX11_blurs_j48, fX11_blurs_j42, fX11_blurs, hA, ↓yp_bdP hc, ↓yp_smL, ↓yp_smR, h1, h2, Nat.reduceAdd, Nat.reduceMul, Nat.reduceSub, Nat.zero_add, Nat.add_zero, yp_LT, yp_nA, yp_nM, yp_ltF, yp_ltT, yp_leF, yp_leT, yp_eqF, eq_self, yp_eqM, lt1, yp_sbN, yp_sb2N, ↓reduceIte, ↓yp_iP11, ↓yp_iP12, ↓yp_m0P]
  · have hm0 := yp_m0R hm
    obtain ⟨r2, k1, k2, k3⟩ := yp_lpI (step := fun st : Int32 × Int32 × Mem => fX12_blurs_b20 (yp_SH B) (B + 517) (yp_N f) st.1 st.2.1 st.2.2) (fun k st => ∃ m', st = (yp_fo (yp_blG (yp_sQ A) (yp_sH A) f) k (yp_N 0), yp_N k, m') ∧ yp_Fr (yp_TQ B) (yp_m0 B m) m') (fun r => r.1 = yp_fo (yp_blG (yp_sQ A) (yp_sH A) f) (yp_qg (yp_sQ A)) (yp_N 0) ∧ yp_Fr (yp_TQ B) (yp_m0 B m) r.2) (yp_qg (yp_sQ A)) (fun k st hk hJ => by
      obtain ⟨m', rfl, hF⟩ := hJ
      have c1 : m' (B + 517) 18 = yp_N (yp_qg (yp_sQ A)) := (hF _ _ (by unfold yp_TQ; omega)).trans hm0.1.2.1
      by_cases e : k = yp_qg (yp_sQ A)
      · subst e
        exact .inr ⟨(_, m'), by simp (disch := omega) only [fX12_blurs_b20, hM, c1, Nat.reduceAdd, Nat.reduceMul, Nat.reduceSub, Nat.zero_add, Nat.add_zero, yp_LT, yp_nA, yp_nM, yp_ltF, yp_ltT, yp_leF, yp_leT, yp_eqF, eq_self, yp_eqM, lt1, yp_sbN, yp_sb2N, ↓reduceIte, ↓yp_iP11, ↓yp_iP12, ↓yp_m0P], rfl, hF⟩
      · have hN1 : yp_HM m' (B + 532) (yp_sH A) := hm0.2.1.same (fun j => hF _ j (by unfold yp_TQ; omega))
        obtain ⟨m2, a1, a2, a3⟩ := yp_m_take hN1
        have hC2 : yp_CLm B m2 (yp_sQ A) := hm0.1.fr (fun a j h => by rw [a3 a j (by unfold yp_FS; omega), hF a j (by unfold yp_TQ; omega)])
        have f2 : yp_Fr (yp_TQ B) (yp_m0 B m) m2 := hF.tr (a3.mono (fun a j h => by unfold yp_FS at h; unfold yp_TQ; omega))
        rcases yp_m_parted hI.1 hC2 a2 hI.2.1.nn0 f k hf6 (by omega) with ⟨h1, h2⟩ | ⟨h1, m3, h2, h3, h4⟩
        · refine .inl ⟨by omega, (yp_fo (yp_blG (yp_sQ A) (yp_sH A) f) (k + 1) (yp_N 0), yp_N (k + 1), m2), ?_, m2, rfl, f2⟩
          rw [yp_fo_s, yp_blG0 (fun h => h1 h.1)]
          simp (disch := omega) only [fX12_blurs_b20, fX12_blurs_j56, fX12_blurs_j57, hM, c1, a1, h2, yp_or0, Nat.reduceAdd, Nat.reduceMul, Nat.reduceSub, Nat.zero_add, Nat.add_zero, yp_LT, yp_nA, yp_nM, yp_ltF, yp_ltT, yp_leF, yp_leT, yp_eqF, eq_self, yp_eqM, lt1, yp_sbN, yp_sb2N, ↓reduceIte, ↓yp_iP11, ↓yp_iP12, ↓yp_m0P]
        · refine .inl ⟨by omega, (yp_fo (yp_blG (yp_sQ A) (yp_sH A) f) (k + 1) (yp_N 0), yp_N (k + 1), m3), ?_, m3, rfl, f2.tr h4⟩
          obtain ⟨v, v1, ⟨rfl, v2⟩ | ⟨rfl, v2⟩⟩ := yp_m_blur h3 f hf6
          · rw [yp_fo_s, yp_blG1 ⟨h1, v2⟩]
            simp (disch := omega) only [fX12_blurs_b20, fX12_blurs_j56, fX12_blurs_j57, hM, c1, a1, h2, v1, yp_b1, Nat.reduceAdd, Nat.reduceMul, Nat.reduceSub, Nat.zero_add, Nat.add_zero, yp_LT, yp_nA, yp_nM, yp_ltF, yp_ltT, yp_leF, yp_leT, yp_eqF, eq_self, yp_eqM, lt1, yp_sbN, yp_sb2N, ↓reduceIte, ↓yp_iP11, ↓yp_iP12, ↓yp_m0P]
          · rw [yp_fo_s, yp_blG0 (fun h => v2 h.2)]
            simp (disch := omega) only [fX12_blurs_b20, fX12_blurs_j56, fX12_blurs_j57, hM, c1, a1, h2, v1, yp_or0, Nat.reduceAdd, Nat.reduceMul, Nat.reduceSub, Nat.zero_add, Nat.add_zero, yp_LT, yp_nA, yp_nM, yp_ltF, yp_ltT, yp_leF, yp_leT, yp_eqF, eq_self, yp_eqM, lt1, yp_sbN, yp_sb2N, ↓reduceIte, ↓yp_iP11, ↓yp_iP12, ↓yp_m0P]) (show yp_qg (yp_sQ A) < FU by rw [yp_FUe]; omega) (s0 := (yp_N 0, yp_N 0, yp_m0 B m)) ⟨yp_m0 B m, rfl, yp_Fr.rf⟩
    refine ⟨r2.2, ?_, yp_FM.tq k3⟩
    simp (disch := omega) only [fX12_blurs_j65, fX12_blurs_j57, fX12_blurs_j56, fX12_blurs, hM, yp_m0e, yp_m_isF1 hm hI hf, k1, k2, Nat.reduceAdd, Nat.reduceMul, Nat.reduceSub, Nat.zero_add, Nat.add_zero, yp_LT, yp_nA, yp_nM, yp_ltF, yp_ltT, yp_leF, yp_leT, yp_eqF, eq_self, yp_eqM, lt1, yp_sbN, yp_sb2N, ↓reduceIte, ↓yp_iP11, ↓yp_iP12, ↓yp_m0P]
end ASK4

def yp_widx : List Nat → Nat → Nat
  | [], _ => 0
  | c :: cs, v => if v = c then 0 else yp_widx cs v + 1
set_option maxHeartbeats 1000000 in
theorem yp_widx_no {v : Nat} : ∀ C : List Nat, (∀ j, j < C.length → v ≠ C.getD j 0) → yp_widx C v = C.length := by
  intro C
  induction C with
  | nil => intro _; rfl
  | cons c cs ih =>
    intro h
    have h0 : v ≠ c := h 0 (Nat.zero_lt_succ _)
    show (if v = c then 0 else yp_widx cs v + 1) = cs.length + 1
    rw [if_neg h0, ih (fun j hj => h (j + 1) (Nat.succ_lt_succ hj))]
def yp_WS (s : Nat) (L O S C : List Nat) : Prop := (sLn s = some (yp_N L.length) ∧ L.length ≤ 60) ∧ (∀ k, k < L.length → sCh s (yp_N k) = some (yp_N (L.getD k 0)) ∧ L.getD k 0 < 256 ∧ S.getD (O.getD k 0) 0 ≤ k ∧ O.getD k 0 < C.length ∧ (L.getD k 0 = 32 → O.getD (k + 1) 0 = O.getD k 0 + 1 ∧ S.getD (O.getD k 0 + 1) 0 = k + 1) ∧ (L.getD k 0 ≠ 32 → O.getD (k + 1) 0 = O.getD k 0)) ∧ (O.getD 0 0 = 0 ∧ S.getD 0 0 = 0 ∧ O.getD L.length 0 = C.length) ∧ (∀ j, j < C.length → S.getD j 0 + 1 ≤ S.getD (j + 1) 0 ∧ S.getD (j + 1) 0 ≤ L.length ∧ S.getD (j + 1) 0 - 1 - S.getD j 0 ≤ 6 ∧ C.getD j 0 = yp_cd (fun i => L.getD i 0) (S.getD j 0) (S.getD (j + 1) 0 - 1 - S.getD j 0) ∧ (∀ i, i < S.getD (j + 1) 0 - 1 - S.getD j 0 → 97 ≤ L.getD (S.getD j 0 + i) 0 ∧ L.getD (S.getD j 0 + i) 0 ≤ 122) ∧ yp_widx C (C.getD j 0) = j ∧ C.getD j 0 ≠ 0)
def yp_C1 : List Nat := [206975479, 7734899, 755084]
def yp_C2 : List Nat := [525908, 447592, 71108, 1420, 21015726, 21678547, 4153, 206975479, 12748404, 441972]
def yp_C3 : List Nat := [525908, 343342, 656741, 239301, 646192, 4153, 1279278]
set_option maxHeartbeats 1000000 in
theorem yp_ws1 : yp_WS 1 [102, 101, 108, 108, 111, 119, 32, 103, 108, 97, 115, 115, 32, 119, 97, 108, 108, 32] [0, 0, 0, 0, 0, 0, 0, 1, 1, 1, 1, 1, 1, 2, 2, 2, 2, 2, 3] [0, 7, 13, 18] yp_C1 := by
  unfold yp_WS
  decide +kernel
set_option maxHeartbeats 1000000 in
theorem yp_ws2 : yp_WS 2 [112, 97, 114, 116, 32, 109, 117, 99, 104, 32, 98, 101, 110, 100, 32, 97, 108, 108, 32, 116, 97, 107, 101, 110, 32, 116, 117, 114, 110, 115, 32, 100, 97, 121, 32, 102, 101, 108, 108, 111, 119, 32, 108, 101, 97, 115, 116, 32, 109, 111, 115, 116, 32] [0, 0, 0, 0, 0, 1, 1, 1, 1, 1, 2, 2, 2, 2, 2, 3, 3, 3, 3, 4, 4, 4, 4, 4, 4, 5, 5, 5, 5, 5, 5, 6, 6, 6, 6, 7, 7, 7, 7, 7, 7, 7, 8, 8, 8, 8, 8, 8, 9, 9, 9, 9, 9, 10] [0, 5, 10, 15, 19, 25, 31, 35, 42, 48, 53] yp_C2 := by
  unfold yp_WS
  decide +kernel
set_option maxHeartbeats 1000000 in
theorem yp_ws3 : yp_WS 3 [112, 97, 114, 116, 32, 106, 111, 105, 110, 32, 116, 97, 107, 101, 32, 103, 105, 118, 101, 32, 115, 119, 97, 112, 32, 100, 97, 121, 32, 97, 103, 97, 105, 110, 32] [0, 0, 0, 0, 0, 1, 1, 1, 1, 1, 2, 2, 2, 2, 2, 3, 3, 3, 3, 3, 4, 4, 4, 4, 4, 5, 5, 5, 5, 6, 6, 6, 6, 6, 6, 7] [0, 5, 10, 15, 20, 25, 29, 35] yp_C3 := by
  unfold yp_WS
  decide +kernel
set_option maxHeartbeats 1000000 in
theorem yp_ofS : fX12_of 6 = some (yp_N 206975479) ∧ fX12_of 7 = some (yp_N 7734899) ∧ fX12_of 8 = some (yp_N 755084) ∧ fX12_of 9 = some (yp_N 12748404) ∧ fX12_of 10 = some (yp_N 441972) ∧ fX12_of 11 = some (yp_N 525908) ∧ fX12_of 12 = some (yp_N 447592) ∧ fX12_of 13 = some (yp_N 71108) ∧ fX12_of 14 = some (yp_N 1420) ∧ fX12_of 15 = some (yp_N 21015726) ∧ fX12_of 16 = some (yp_N 21678547) ∧ fX12_of 17 = some (yp_N 4153) ∧ fX12_of 18 = some (yp_N 343342) ∧ fX12_of 19 = some (yp_N 656741) ∧ fX12_of 20 = some (yp_N 239301) ∧ fX12_of 21 = some (yp_N 646192) ∧ fX12_of 22 = some (yp_N 1279278) := by
  refine ⟨?_, ?_, ?_, ?_, ?_, ?_, ?_, ?_, ?_, ?_, ?_, ?_, ?_, ?_, ?_, ?_, ?_⟩ <;> decide +kernel
section WORDS
variable {B : Nat} {m : Mem} {t : Nat → Nat} {n p e : Nat}
def yp_wm (L S : List Nat) (t : Nat → Nat) (q e j : Nat) : Prop := e - q = S.getD (j + 1) 0 - 1 - S.getD j 0 ∧ ∀ i, i < e - q → t (q + i) = L.getD (S.getD j 0 + i) 0
set_option maxHeartbeats 1000000 in
theorem yp_c_isRead {s : Nat} {L O S C : List Nat} (hW : yp_WS s L O S C) (h : yp_CT B m t n e) (q f : Nat) (hq : q ≤ e) (hf : f + (e - q) ≤ L.length) : ((∀ i, i < e - q → t (q + i) = L.getD (f + i) 0) ∧ fX8_isRead (yp_SH B) (B + 1) s (yp_N f) (yp_N q) m = some (yp_N 1)) ∨ (¬ (∀ i, i < e - q → t (q + i) = L.getD (f + i) 0) ∧ fX8_isRead (yp_SH B) (B + 1) s (yp_N f) (yp_N q) m = some (yp_N 0)) := by
  have hT := yp_tapS B
  obtain ⟨⟨w1, w2⟩, w3, w4, w5⟩ := hW
  obtain ⟨⟨c2, c3, cb⟩, hn, he, c6⟩ := h
  obtain ⟨x, h1, h2⟩ := yp_lpI (step := fun st : Int32 => fX8_isRead_b3 (yp_SH B) (B + 1) s (yp_N f) (yp_N q) st m) (fun k st => st = yp_N (q + k) ∧ ∀ i, i < k → t (q + i) = L.getD (f + i) 0) (fun x => ((∀ i, i < e - q → t (q + i) = L.getD (f + i) 0) ∧ x = Sum.inr ()) ∨ (¬ (∀ i, i < e - q → t (q + i) = L.getD (f + i) 0) ∧ x = Sum.inl ())) (e - q) (fun k st hk hJ => by
    obtain ⟨rfl, hJ⟩ := hJ
    by_cases e1 : k = e - q
    · subst e1
      exact .inr ⟨_, by simp (disch := omega) only [fX8_isRead_b3, hT, c3, Nat.reduceAdd, Nat.reduceMul, Nat.reduceSub, Nat.zero_add, Nat.add_zero, yp_LT, yp_nA, yp_nM, yp_ltF, yp_ltT, yp_leF, yp_leT, yp_eqF, eq_self, yp_eqM, yp_lt1N, yp_sbN, yp_sb2N, ↓reduceIte, ↓yp_iP11, ↓yp_iP12, ↓yp_m0P], .inl ⟨hJ, rfl⟩⟩
    · have x1 : yp_N (f + (q + k)) - yp_N q = yp_N (f + k) := by
        rw [yp_nS (by omega)]
        exact congrArg yp_N (by omega)
      obtain ⟨y1, y2, y3⟩ := w3 (f + k) (by omega)
      have y4 := cb (q + k) (by omega)
      have y5 := c6 (q + k)
      by_cases e2 : t (q + k) = L.getD (f + k) 0
      · refine .inl ⟨by omega, yp_N (q + k + 1), ?_, rfl, fun i hi => ?_⟩
        · rw [e2] at y4
          simp (disch := omega) only [fX8_isRead_b3, hT, c3, x1, y1, y4, Nat.reduceAdd, Nat.reduceMul, Nat.reduceSub, Nat.zero_add, Nat.add_zero, yp_LT, yp_nA, yp_nM, yp_ltF, yp_ltT, yp_leF, yp_leT, yp_eqF, eq_self, yp_eqM, yp_lt1N, yp_sbN, yp_sb2N, ↓reduceIte, ↓yp_iP11, ↓yp_iP12, ↓yp_m0P]
        · by_cases e3 : i = k
          · rw [e3]; exact e2
          · exact hJ i (by omega)
      · refine .inr ⟨Sum.inl (), ?_, .inr ⟨fun q => e2 (q k (by omega)), rfl⟩⟩
        have e3 : ¬ L.getD (f + k) 0 = t (q + k) := fun h => e2 h.symm
        simp (disch := omega) only [fX8_isRead_b3, hT, c3, x1, y1, y4, Nat.reduceAdd, Nat.reduceMul, Nat.reduceSub, Nat.zero_add, Nat.add_zero, yp_LT, yp_nA, yp_nM, yp_ltF, yp_ltT, yp_leF, yp_leT, yp_eqF, eq_self, yp_eqM, yp_lt1N, yp_sbN, yp_sb2N, ↓reduceIte, ↓yp_iP11, ↓yp_iP12, ↓yp_m0P]) (show e - q < FU by rw [yp_FUe]; omega) (s0 := yp_N q) ⟨rfl, fun i hi => absurd hi (Nat.not_lt_zero i)⟩
  rcases h2 with ⟨h2, rfl⟩ | ⟨h2, rfl⟩
  · exact .inl ⟨h2, by simp (disch := omega) only [fX8_isRead_j40, fX8_isRead_j32, fX8_isRead, h1, Sum.elim, Nat.reduceAdd, Nat.reduceMul, Nat.reduceSub, Nat.zero_add, Nat.add_zero, yp_LT, yp_nA, yp_nM, yp_ltF, yp_ltT, yp_leF, yp_leT, yp_eqF, eq_self, yp_eqM, yp_lt1N, yp_sbN, yp_sb2N, ↓reduceIte, ↓yp_iP11, ↓yp_iP12, ↓yp_m0P]⟩
  · exact .inr ⟨h2, by simp (disch := omega) only [fX8_isRead_j40, fX8_isRead_j32, fX8_isRead, h1, Sum.elim, Nat.reduceAdd, Nat.reduceMul, Nat.reduceSub, Nat.zero_add, Nat.add_zero, yp_LT, yp_nA, yp_nM, yp_ltF, yp_ltT, yp_leF, yp_leT, yp_eqF, eq_self, yp_eqM, yp_lt1N, yp_sbN, yp_sb2N, ↓reduceIte, ↓yp_iP11, ↓yp_iP12, ↓yp_m0P]⟩
set_option maxHeartbeats 1000000 in
theorem yp_c_scan {s : Nat} {L O S C : List Nat} (hW : yp_WS s L O S C) (h : yp_CT B m t n e) (q : Nat) (hq : q ≤ e) : ∃ x, loopN (fun st : Int32 × Int32 × Int32 => fX8_word_b65 (yp_SH B) (B + 1) s (yp_N q) st.1 st.2.1 st.2.2 m) FU (yp_N 0, yp_N 0, yp_N 0) = some x ∧ ((∃ j, j < C.length ∧ yp_wm L S t q e j ∧ x = Sum.inl (yp_N j)) ∨ ((∀ j, j < C.length → ¬ yp_wm L S t q e j) ∧ x = Sum.inr ())) := by
  have hT := yp_tapS B
  have hW2 := hW
  obtain ⟨⟨w1, w2⟩, w3, ⟨w4, w4', w4''⟩, w5⟩ := hW
  obtain ⟨⟨c2, c3, cb⟩, hn, he, c6⟩ := id h
  refine yp_lpI (step := fun st : Int32 × Int32 × Int32 => fX8_word_b65 (yp_SH B) (B + 1) s (yp_N q) st.1 st.2.1 st.2.2 m) (fun k st => st = (yp_N (O.getD k 0), yp_N (S.getD (O.getD k 0) 0), yp_N k) ∧ ∀ j, j < O.getD k 0 → ¬ yp_wm L S t q e j) (fun x => (∃ j, j < C.length ∧ yp_wm L S t q e j ∧ x = Sum.inl (yp_N j)) ∨ ((∀ j, j < C.length → ¬ yp_wm L S t q e j) ∧ x = Sum.inr ())) L.length (fun k st hk hJ => ?_) (show L.length < FU by rw [yp_FUe]; omega) (s0 := (yp_N 0, yp_N 0, yp_N 0)) ⟨by rw [w4, w4'], fun j hj => by rw [w4] at hj; exact absurd hj (Nat.not_lt_zero j)⟩
  obtain ⟨rfl, hJ⟩ := hJ
  by_cases e1 : k = L.length
  · rw [e1] at hJ ⊢
    rw [w4''] at hJ
    exact .inr ⟨Sum.inr (), by simp (disch := omega) only [fX8_word_b65, w1, Nat.reduceAdd, Nat.reduceMul, Nat.reduceSub, Nat.zero_add, Nat.add_zero, yp_LT, yp_nA, yp_nM, yp_ltF, yp_ltT, yp_leF, yp_leT, yp_eqF, eq_self, yp_eqM, yp_lt1N, yp_sbN, yp_sb2N, ↓reduceIte, ↓yp_iP11, ↓yp_iP12, ↓yp_m0P], .inr ⟨hJ, rfl⟩⟩
  · obtain ⟨y1, y2, y3, y4, y5, y6⟩ := w3 k (by omega)
    have y7 := (w5 _ y4).1
    by_cases e2 : L.getD k 0 = 32
    · obtain ⟨z1, z2⟩ := y5 e2
      rw [e2] at y1
      rw [z2] at y7
      have x1 : yp_N k - yp_N (S.getD (O.getD k 0) 0) = yp_N (k - S.getD (O.getD k 0) 0) := yp_nS (by omega)
      have x2 : yp_N e - yp_N q = yp_N (e - q) := yp_nS hq
      by_cases e3 : k - S.getD (O.getD k 0) 0 = e - q
      · rw [e3] at x1
        rcases yp_c_isRead hW2 h q (S.getD (O.getD k 0) 0) hq (by omega) with ⟨r1, r2⟩ | ⟨r1, r2⟩
        · refine .inr ⟨Sum.inl (yp_N (O.getD k 0)), ?_, .inl ⟨O.getD k 0, y4, ⟨by rw [z2]; omega, r1⟩, rfl⟩⟩
          simp (disch := omega) only [fX8_word_b65, w1, y1, hT, c3, x1, x2, r2, Nat.reduceAdd, Nat.reduceMul, Nat.reduceSub, Nat.zero_add, Nat.add_zero, yp_LT, yp_nA, yp_nM, yp_ltF, yp_ltT, yp_leF, yp_leT, yp_eqF, eq_self, yp_eqM, yp_lt1N, yp_sbN, yp_sb2N, ↓reduceIte, ↓yp_iP11, ↓yp_iP12, ↓yp_m0P]
        · refine .inl ⟨by omega, (yp_N (O.getD k 0 + 1), yp_N (k + 1), yp_N (k + 1)), ?_, by rw [z1, z2], fun j hj => ?_⟩
          · simp (disch := omega) only [fX8_word_b65, fX8_word_j112, fX8_word_j121, w1, y1, hT, c3, x1, x2, r2, Nat.reduceAdd, Nat.reduceMul, Nat.reduceSub, Nat.zero_add, Nat.add_zero, yp_LT, yp_nA, yp_nM, yp_ltF, yp_ltT, yp_leF, yp_leT, yp_eqF, eq_self, yp_eqM, yp_lt1N, yp_sbN, yp_sb2N, ↓reduceIte, ↓yp_iP11, ↓yp_iP12, ↓yp_m0P]
          · rw [z1] at hj
            by_cases e4 : j = O.getD k 0
            · rw [e4]; exact fun hm => r1 hm.2
            · exact hJ j (by omega)
      · refine .inl ⟨by omega, (yp_N (O.getD k 0 + 1), yp_N (k + 1), yp_N (k + 1)), ?_, by rw [z1, z2], fun j hj => ?_⟩
        · simp (disch := omega) only [fX8_word_b65, fX8_word_j112, fX8_word_j121, w1, y1, hT, c3, x1, x2, Nat.reduceAdd, Nat.reduceMul, Nat.reduceSub, Nat.zero_add, Nat.add_zero, yp_LT, yp_nA, yp_nM, yp_ltF, yp_ltT, yp_leF, yp_leT, yp_eqF, eq_self, yp_eqM, yp_lt1N, yp_sbN, yp_sb2N, ↓reduceIte, ↓yp_iP11, ↓yp_iP12, ↓yp_m0P]
        · rw [z1] at hj
          by_cases e4 : j = O.getD k 0
          · rw [e4]
            intro hm
            have := hm.1
            rw [z2] at this
            omega
          · exact hJ j (by omega)
    · have z1 := y6 e2
      refine .inl ⟨by omega, (yp_N (O.getD k 0), yp_N (S.getD (O.getD k 0) 0), yp_N (k + 1)), ?_, by rw [z1], fun j hj => ?_⟩
      · simp (disch := omega) only [fX8_word_b65, fX8_word_j121, w1, y1, Nat.reduceAdd, Nat.reduceMul, Nat.reduceSub, Nat.zero_add, Nat.add_zero, yp_LT, yp_nA, yp_nM, yp_ltF, yp_ltT, yp_leF, yp_leT, yp_eqF, eq_self, yp_eqM, yp_lt1N, yp_sbN, yp_sb2N, ↓reduceIte, ↓yp_iP11, ↓yp_iP12, ↓yp_m0P]
      · rw [z1] at hj
        exact hJ j hj
set_option maxHeartbeats 1000000 in
theorem yp_wm_code {s : Nat} {L O S C : List Nat} (hW : yp_WS s L O S C) (hp : p ≤ n) (j : Nat) (hj : j < C.length) : yp_wm L S t (yp_sk t n p) (yp_wE t n p) j ↔ yp_wC t n p = C.getD j 0 := by
  obtain ⟨v1, v2, v3, v4, v5, v6, v7⟩ := hW.2.2.2 j hj
  have in1 : ∀ i, i < yp_wE t n p - yp_sk t n p → 97 ≤ t (yp_sk t n p + i) ∧ t (yp_sk t n p + i) ≤ 122 := fun i hi => yp_sl1.mp (yp_run_in (P := yp_sl t) (n := n) (p := yp_sk t n p) (by omega) (show yp_sk t n p + i < yp_wE t n p by omega))
  unfold yp_wC yp_wm
  constructor
  · rintro ⟨h1, h2⟩
    rw [if_pos (by omega), v4, h1]
    unfold yp_cd
    refine yp_fo_congr (fun i a hi => ?_)
    unfold yp_cdG
    rw [h2 i (by omega)]
  · intro h
    by_cases e : yp_wE t n p - yp_sk t n p ≤ 6
    · rw [if_pos e, v4] at h
      obtain ⟨h1, h2⟩ := yp_cd_inj _ _ in1 v5 h
      exact ⟨h1, h2⟩
    · rw [if_neg e] at h
      exact absurd h.symm v7
set_option maxHeartbeats 1000000 in
theorem yp_c_word {s : Nat} {L O S C : List Nat} (hW : yp_WS s L O S C) (h : yp_CT B m t n p) : (yp_widx C (yp_wC t n p) < C.length ∧ fX8_word (yp_SH B) (B + 1) s m = some (yp_N (yp_widx C (yp_wC t n p)), yp_cAt B m (yp_wE t n p))) ∨ (yp_widx C (yp_wC t n p) = C.length ∧ fX8_word (yp_SH B) (B + 1) s m = some (-yp_N 1, yp_cF B (yp_cAt B m (yp_wE t n p)) 1 (yp_sk t n p))) := by
  have hT := yp_tapS B
  have e0 := yp_c_next h
  have hn := h.2.1
  have hl := yp_sk_le (t := t) h.2.2.1
  have hq := h.at hl
  have g1 := yp_wE_ge t n p
  have g2 := yp_wE_le (t := t) h.2.2.1
  have e1 := yp_adv (step := fun st : Mem => fX8_word_b5 (yp_SH B) (B + 1) s (yp_N (yp_sk t n p)) st) (m := yp_cAt B m (yp_sk t n p)) (P := yp_sl t) (B + 1) 3 n (yp_sk t n p) hl (by omega) (fun q h1 h2 h3 => by
    have hr : yp_CT B (up2 (yp_cAt B m (yp_sk t n p)) (B + 1) 3 (yp_N q)) t n q := hq.at (q := q) (by omega)
    obtain ⟨⟨q1, q2, q3⟩, q4, q5, q6⟩ := hr
    have q7 := q3 q h2
    have h3 := yp_sl1.mp h3
    simp (disch := omega) only [fX8_word_b5, hT, q1, q2, q7, yp_up2_2, Nat.reduceAdd, Nat.reduceMul, Nat.reduceSub, Nat.zero_add, Nat.add_zero, yp_LT, yp_nA, yp_nM, yp_ltF, yp_ltT, yp_leF, yp_leT, yp_eqF, eq_self, yp_eqM, yp_lt1N, yp_sbN, yp_sb2N, ↓reduceIte, ↓yp_iP11, ↓yp_iP12, ↓yp_m0P]) (fun q h1 h2 h3 => by
    have hr : yp_CT B (up2 (yp_cAt B m (yp_sk t n p)) (B + 1) 3 (yp_N q)) t n q := hq.at (q := q) (by omega)
    obtain ⟨⟨q1, q2, q3⟩, q4, q5, q6⟩ := hr
    by_cases e : q = n
    · subst e
      simp (disch := omega) only [fX8_word_b5, hT, q1, q2, Nat.reduceAdd, Nat.reduceMul, Nat.reduceSub, Nat.zero_add, Nat.add_zero, yp_LT, yp_nA, yp_nM, yp_ltF, yp_ltT, yp_leF, yp_leT, yp_eqF, eq_self, yp_eqM, yp_lt1N, yp_sbN, yp_sb2N, ↓reduceIte, ↓yp_iP11, ↓yp_iP12, ↓yp_m0P]
    · have q7 := q3 q (by omega)
      have q8 := q6 q
      have h3 := yp_sl0.mp (h3 (by omega))
      by_cases e2 : t q < 97
      · simp (disch := omega) only [fX8_word_b5, hT, q1, q2, q7, Nat.reduceAdd, Nat.reduceMul, Nat.reduceSub, Nat.zero_add, Nat.add_zero, yp_LT, yp_nA, yp_nM, yp_ltF, yp_ltT, yp_leF, yp_leT, yp_eqF, eq_self, yp_eqM, yp_lt1N, yp_sbN, yp_sb2N, ↓reduceIte, ↓yp_iP11, ↓yp_iP12, ↓yp_m0P]
      · simp (disch := omega) only [fX8_word_b5, hT, q1, q2, q7, Nat.reduceAdd, Nat.reduceMul, Nat.reduceSub, Nat.zero_add, Nat.add_zero, yp_LT, yp_nA, yp_nM, yp_ltF, yp_ltT, yp_leF, yp_leT, yp_eqF, eq_self, yp_eqM, yp_lt1N, yp_sbN, yp_sb2N, ↓reduceIte, ↓yp_iP11, ↓yp_iP12, ↓yp_m0P]) hq.1.2.1
  have e1 : loopN (fun st : Mem => fX8_word_b5 (yp_SH B) (B + 1) s (yp_N (yp_sk t n p)) st) FU (yp_cAt B m (yp_sk t n p)) = some (yp_cAt B (yp_cAt B m (yp_sk t n p)) (yp_wE t n p)) := e1
  rw [yp_cAt2] at e1
  have hr := h.at g2
  obtain ⟨x, e2, e3⟩ := yp_c_scan hW hr (yp_sk t n p) g1
  have f1 := yp_c_fail B (yp_cAt B m (yp_wE t n p)) 1 (yp_sk t n p)
  rcases e3 with ⟨j, j1, j2, rfl⟩ | ⟨j1, rfl⟩
  · have j3 := (yp_wm_code hW h.2.2.1 j j1).mp j2
    have j4 := (hW.2.2.2 j j1).2.2.2.2.2.1
    rw [j3, j4]
    exact .inl ⟨j1, by simp (disch := omega) only [fX8_word_j127, fX8_word_j110, fX8_word_j121, fX8_word_j112, fX8_word_j57, fX8_word, hT, e0, e1, e2, Sum.elim, Nat.reduceAdd, Nat.reduceMul, Nat.reduceSub, Nat.zero_add, Nat.add_zero, yp_LT, yp_nA, yp_nM, yp_ltF, yp_ltT, yp_leF, yp_leT, yp_eqF, eq_self, yp_eqM, yp_lt1N, yp_sbN, yp_sb2N, ↓reduceIte, ↓yp_iP11, ↓yp_iP12, ↓yp_m0P]⟩
  · have j3 := yp_widx_no C (v := yp_wC t n p) (fun j hj hc => j1 j hj ((yp_wm_code hW h.2.2.1 j hj).mpr hc))
    exact .inr ⟨j3, by simp (disch := omega) only [fX8_word_j127, fX8_word_j110, fX8_word_j121, fX8_word_j112, fX8_word_j57, fX8_word, hT, e0, e1, e2, Sum.elim, f1, Nat.reduceAdd, Nat.reduceMul, Nat.reduceSub, Nat.zero_add, Nat.add_zero, yp_LT, yp_nA, yp_nM, yp_ltF, yp_ltT, yp_leF, yp_leT, yp_eqF, eq_self, yp_eqM, yp_lt1N, yp_sbN, yp_sb2N, ↓reduceIte, ↓yp_iP11, ↓yp_iP12, ↓yp_m0P]⟩
end WORDS

set_option maxHeartbeats 1000000 in
theorem yp_sbN {α β : Type} (x : α) (f : α → Option β) : (some x).bind f = f x := Eq.trans (Eq.refl _) (Eq.refl _)
set_option maxHeartbeats 1000000 in
theorem yp_sb2N {α β γ : Type} (x : α) (y : β) (f : α → β → Option γ) : bd2 (some (x, y)) f = f x y := Eq.trans (Eq.refl _) (Eq.refl _)
set_option maxHeartbeats 1000000 in
theorem yp_opP {α γ : Type} {x : Option α} {v : α} (h : x = some v) (F : α → Option γ) : x.bind F = F v := by rw [h]; rfl
set_option maxHeartbeats 1000000 in
theorem yp_bdP {α β γ : Type} {x : Option (α × β)} {v : α} {w : β} (h : x = some (v, w)) (F : α → β → Option γ) : bd2 x F = F v w := by rw [h]; rfl
set_option maxHeartbeats 1000000 in
theorem yp_iP11 {γ : Type} (B : Nat) (F : Unit → Option γ) : (isO (yp_SH B) 11 B).bind F = F () := yp_opP (yp_isO11 B) F
set_option maxHeartbeats 1000000 in
theorem yp_iP12 {γ : Type} (B : Nat) (F : Unit → Option γ) : (isO (yp_SH B) 12 (B + 517)).bind F = F () := yp_opP (yp_isO12 B) F
set_option maxHeartbeats 1000000 in
theorem yp_smL {α β : Type} (v : α) (f : α → Option β) (g : Nat → Option β) : sme (.inl v) f g = f v := rfl
set_option maxHeartbeats 1000000 in
theorem yp_smR {α β : Type} (k : Nat) (f : α → Option β) (g : Nat → Option β) : sme (.inr k) f g = g k := rfl
set_option maxHeartbeats 1000000 in
theorem yp_m0P {γ : Type} (B : Nat) (m : Mem) (F : Mem → Option γ) : (wI (yp_SH B) m 12 (B + 517) 0 0).bind F = F (yp_m0 B m) := yp_opP ((yp_mS B).2.2.2.1 m 0 0) F
set_option maxHeartbeats 1000000 in
theorem yp_nd1 (B : Nat) (mm : Mem) {γ : Type} (F : Unit ⊕ Nat → Mem → Option γ) : bd2 (fX11_need (yp_SH B) B 1 mm) F = F (.inl ()) mm ∧ bd2 (fX11_need (yp_SH B) B (yp_N 1) mm) F = F (.inl ()) mm := ⟨yp_bdP (yp_c_need1 B mm) F, yp_bdP (yp_c_need1 B mm) F⟩
set_option maxHeartbeats 1000000 in
theorem yp_nd0 {B : Nat} {mm : Mem} {A : yp_St} (hR : yp_RCc B mm A) {γ : Type} (F : Unit ⊕ Nat → Mem → Option γ) : bd2 (fX11_need (yp_SH B) B 0 mm) F = F (.inr 1) (up2 mm B 17 (yp_sC1 A + yp_N 1)) ∧ bd2 (fX11_need (yp_SH B) B (yp_N 0) mm) F = F (.inr 1) (up2 mm B 17 (yp_sC1 A + yp_N 1)) := ⟨yp_bdP (yp_c_need0 hR) F, yp_bdP (yp_c_need0 hR) F⟩
set_option maxHeartbeats 1000000 in
theorem yp_ltF {a b : Nat} (h : b ≤ a) (ha : a < 2147483648) : (yp_N a < yp_N b) = False := by
  rw [yp_ltN ha (by omega)]; exact eq_false (by omega)
set_option maxHeartbeats 1000000 in
theorem yp_ltT {a b : Nat} (h : a < b) (hb : b < 2147483648) : (yp_N a < yp_N b) = True := by
  rw [yp_ltN (by omega) hb]; exact eq_true h
set_option maxHeartbeats 1000000 in
theorem yp_leF {a b : Nat} (h : b < a) (ha : a < 2147483648) : (yp_N a ≤ yp_N b) = False := by
  rw [yp_leN ha (by omega)]; exact eq_false (by omega)
set_option maxHeartbeats 1000000 in
theorem yp_leT {a b : Nat} (h : a ≤ b) (hb : b < 2147483648) : (yp_N a ≤ yp_N b) = True := by
  rw [yp_leN (by omega) hb]; exact eq_true h
set_option maxHeartbeats 1000000 in
theorem yp_eqF {a b : Nat} (h : a ≠ b) (ha : a < 2147483648) (hb : b < 2147483648) : (yp_N a = yp_N b) = False := by
  rw [yp_eqN ha hb]; exact eq_false h
def yp_PM (B : Nat) (f : Option ((Int32 ⊕ Nat) × Mem)) (g : Mem → Option (Int32 × Mem)) (hc : Nat → Option Int32) (mm : Mem) (A : yp_St) : Prop := ∃ o t v A', yp_INV A' ∧ yp_CA B f mm o A' ∧ (∀ m, yp_RMm B m A → yp_MA B (g m) m t v A') ∧ ((o = .inl v ∧ t = yp_N 0) ∨ (∃ k, o = .inr k ∧ hc k = some t ∧ t ≠ yp_N 0))
section DAYS
variable {Q : yp_EnvT} {H : Nat → Int32}
set_option maxHeartbeats 1000000 in
theorem yp_fo_seven {S : Type} (g : Nat → S → S) (n : Nat) (s : S) : yp_fo g (n * 7) s = yp_fo (fun f s => yp_fo (fun i s => g (f * 7 + i) s) 7 s) n s := by
  induction n with
  | zero => rfl
  | succ n ih =>
    rw [yp_fo_s, ← ih, show (n + 1) * 7 = n * 7 + 7 by omega]
    rfl
set_option maxHeartbeats 1000000 in
theorem yp_orself (a b : Int32) : a ||| b ||| b = a ||| b := by rw [Int32.or_assoc, Int32.or_self]
set_option maxHeartbeats 1000000 in
theorem yp_lit_block (H : Nat → Int32) (n : Int32) (f : Nat) (hf : f < 6) (a : Int32) : ∀ m, m ≤ 7 → yp_fo (fun i a => yp_ltG H n (f * 7 + i) a) m a = if (∀ i, i < m → H (42 + (f * 7 + i)) ≤ n) then a else a ||| yp_b1 f := by
  intro m
  induction m with
  | zero => intro _; rw [yp_fo_0, if_pos (fun i hi => absurd hi (Nat.not_lt_zero i))]
  | succ m ih =>
    intro hm
    rw [yp_fo_s, ih (by omega)]
    unfold yp_ltG
    have e0 : (f * 7 + m) / 7 = f := by omega
    rw [e0]
    by_cases e : ∀ i, i < m → H (42 + (f * 7 + i)) ≤ n
    · rw [if_pos e]
      by_cases e2 : H (42 + (f * 7 + m)) ≤ n
      · rw [if_pos e2, if_pos (fun i hi => by
          by_cases e3 : i = m
          · rw [e3]; exact e2
          · exact e i (by omega))]
      · rw [if_neg e2, if_neg (fun h => e2 (h m (by omega)))]
    · rw [if_neg e, if_neg (show ¬ ∀ i, i < m + 1 → H (42 + (f * 7 + i)) ≤ n from fun h => e (fun i hi => h i (by omega))), yp_orself]
      split <;> rfl
set_option maxHeartbeats 1000000 in
theorem yp_zs_zero {v : Nat → Int} {n : Nat} (h : ∀ k, k < n → 0 ≤ v k) : yp_zs v n ≤ 0 ↔ ∀ k, k < n → v k ≤ 0 := by
  constructor
  · intro h1 k hk
    have := yp_zs_one h k hk
    omega
  · intro h1
    have := yp_zs_le (v := v) (w := fun _ => 0) (n := n) h1
    rw [yp_zs_const (x := 0) (fun _ _ => rfl)] at this
    omega
set_option maxHeartbeats 1000000 in
theorem yp_wall_zero (hH : yp_HI Q H) (f : Nat) (hf : f < 6) : yp_sm (fun i => H (42 + f * 7 + i)) 7 ≤ yp_N 0 ↔ ∀ i, i < 7 → H (42 + (f * 7 + i)) ≤ yp_N 0 := by
  have h1 := hH.sm 42 (.inr (.inl rfl)) (f * 7) 7 (by omega)
  have e : yp_sm (fun i => H (42 + f * 7 + i)) 7 = yp_sm (fun i => H (42 + (f * 7 + i))) 7 := yp_sm_congr (fun k hk => by rw [Nat.add_assoc])
  rw [e, yp_leTi, yp_ti0, h1.1, yp_zs_zero (fun k hk => hH.nn 42 (.inr (.inl rfl)) _ (by omega))]
  constructor
  · intro h i hi; rw [yp_leTi, yp_ti0]; exact h i hi
  · intro h i hi; have := h i hi; rw [yp_leTi, yp_ti0] at this; exact this
def yp_dayN (H : Nat → Int32) (n : Nat) : Nat → Int32 := yp_fo (fun _ K => yp_dayH K) n H
set_option maxHeartbeats 1000000 in
theorem yp_dayH_o {k : Nat} (h1 : ¬ (42 ≤ k ∧ k < 84)) (h2 : k ≠ 174) : yp_dayH H k = H k := by
  unfold yp_dayH
  rw [if_neg h1, if_neg h2]
set_option maxHeartbeats 1000000 in
theorem yp_dayH_w {k : Nat} (hk : k < 42) (h0 : 0 ≤ (H (42 + k)).toInt) : (yp_dayH H (42 + k)).toInt = if (H (42 + k)).toInt ≤ 0 then 0 else (H (42 + k)).toInt - 1 := by
  unfold yp_dayH
  rw [if_pos (by omega)]
  by_cases e : H (42 + k) ≤ yp_N 0
  · rw [if_pos e]
    rw [yp_leTi, yp_ti0] at e
    rw [if_pos e]
    omega
  · rw [if_neg e]
    rw [yp_leTi, yp_ti0] at e
    rw [if_neg e, yp_ti_sub (by rw [yp_ti1]; omega) (by rw [yp_ti1]; have := Int32.toInt_lt (H (42 + k)); omega), yp_ti1]
set_option maxHeartbeats 1000000 in
theorem yp_HI.day (hH : yp_HI Q H) : yp_HI Q (yp_dayH H) := by
  have hw : ∀ k, k < 42 → 0 ≤ (yp_dayH H (42 + k)).toInt ∧ (yp_dayH H (42 + k)).toInt ≤ (H (42 + k)).toInt := fun k hk => by
    have h0 := (hH.1 k hk).2.1
    rw [yp_dayH_w hk h0]
    split <;> omega
  refine ⟨fun k hk => ?_, fun k hk h2 => ?_, ?_⟩
  · have h1 := hH.1 k hk
    have h2 := hw k hk
    rw [yp_dayH_o (k := k) (by omega) (by omega), yp_dayH_o (k := 126 + k) (by omega) (by omega), yp_dayH_o (k := 84 + k) (by omega) (by omega)]
    exact ⟨h1.1, h2.1, h1.2.2.1, h1.2.2.2⟩
  · have h1 := hH.2.1 k hk h2
    rw [yp_dayH_o (k := k) (by omega) (by omega), yp_dayH_o (k := 126 + k) (by omega) (by omega)]
    refine ⟨h1.1, ?_, h1.2.2⟩
    have h3 := hw k hk
    rw [yp_eqTi, yp_ti0]
    have h4 : (H (42 + k)).toInt = 0 := by rw [h1.2.1]; rfl
    omega
  · refine Int.le_trans (yp_zs_le (fun k hk => ?_)) hH.2.2
    have h2 := hw k hk
    show (yp_dayH H k).toInt + (yp_dayH H (42 + k)).toInt + (yp_dayH H (126 + k)).toInt ≤ _
    rw [yp_dayH_o (k := k) (by omega) (by omega), yp_dayH_o (k := 126 + k) (by omega) (by omega)]
    omega
set_option maxHeartbeats 1000000 in
theorem yp_HI.dayN (hH : yp_HI Q H) : ∀ n, yp_HI Q (yp_dayN H n)
  | 0 => hH
  | n + 1 => (yp_HI.dayN hH n).day
set_option maxHeartbeats 1000000 in
theorem yp_dayN_w (hH : yp_HI Q H) (k : Nat) (hk : k < 42) : ∀ n : Nat, (yp_dayN H n (42 + k)).toInt = if (H (42 + k)).toInt ≤ n then 0 else (H (42 + k)).toInt - n := by
  intro n
  induction n with
  | zero =>
    have h0 := (hH.1 k hk).2.1
    show (H (42 + k)).toInt = _
    split <;> omega
  | succ n ih =>
    show (yp_dayH (yp_dayN H n) (42 + k)).toInt = _
    rw [yp_dayH_w hk ((hH.dayN n).1 k hk).2.1, ih]
    have h0 := (hH.1 k hk).2.1
    (repeat' split) <;> omega
set_option maxHeartbeats 1000000 in
theorem yp_lit_eq (hH : yp_HI Q H) (hn : yp_qf Q ≤ 6) (n : Nat) (hN : n < 2147483648) : yp_fo (yp_ltG H (yp_N n)) 42 (yp_N 0) = yp_fo (fun k a => a ||| (if yp_sm (fun i => yp_dayN H n (42 + k * 7 + i)) 7 ≤ yp_N 0 then yp_N 0 else yp_b1 k)) (yp_qf Q) (yp_N 0) := by
  have key : ∀ f, f < 6 → ((∀ i, i < 7 → H (42 + (f * 7 + i)) ≤ yp_N n) ↔ yp_sm (fun i => yp_dayN H n (42 + f * 7 + i)) 7 ≤ yp_N 0) := fun f hf => by
    rw [yp_wall_zero (hH.dayN n) f hf]
    constructor
    · intro h i hi
      have h1 := h i hi
      rw [yp_leTi, yp_tiN hN] at h1
      rw [yp_leTi, yp_ti0, yp_dayN_w hH _ (by omega), if_pos h1]
      exact Int.le_refl _
    · intro h i hi
      have h1 := h i hi
      rw [yp_leTi, yp_ti0, yp_dayN_w hH _ (by omega)] at h1
      rw [yp_leTi, yp_tiN hN]
      split at h1 <;> omega
  rw [show 42 = 6 * 7 from rfl, yp_fo_seven, yp_fo_tail hn (fun f s h1 h2 => ?_)]
  · refine yp_fo_congr (fun f s hf => ?_)
    rw [yp_lit_block H (yp_N n) f (by omega) s 7 (by omega)]
    by_cases e : ∀ i, i < 7 → H (42 + (f * 7 + i)) ≤ yp_N n
    · rw [if_pos e, if_pos ((key f (by omega)).mp e), yp_or0]
    · rw [if_neg e, if_neg (fun h => e ((key f (by omega)).mpr h))]
  · rw [yp_lit_block H (yp_N n) f (by omega) s 7 (by omega), if_pos]
    intro i hi
    rw [(hH.2.1 (f * 7 + i) (by omega) (by omega)).2.1, yp_leN (by omega) hN]
    omega
set_option maxHeartbeats 1000000 in
theorem yp_wallAfter_eq (hH : yp_HI Q H) (n : Nat) (hN : n ≤ 99) : yp_sm (fun k => mxI (yp_N 0) (H (42 + k) - yp_N n)) 42 = yp_sm (fun i => yp_dayN H n (42 + i)) 42 := by
  refine yp_sm_congr (fun k hk => ?_)
  have h0 := (hH.1 k hk).2.1
  have h1 := hH.le k hk
  have h2 := hH.1 k hk
  show mxI (yp_N 0) (H (42 + k) - yp_N n) = yp_dayN H n (42 + k)
  rw [yp_eqTi, yp_mxTi, yp_dayN_w hH k hk, yp_ti0, yp_ti_sub (by rw [yp_tiN (by omega)]; omega) (by rw [yp_tiN (by omega)]; omega), yp_tiN (by omega)]
  (repeat' split) <;> omega
end DAYS
section TOLD
variable {B : Nat} {mm : Mem} {A : yp_St}
set_option maxHeartbeats 1000000 in
theorem yp_KC_rf {m : Mem} : ∀ a j, yp_KC B a j ∨ B + 517 ≤ a → m a j = m a j := fun _ _ _ => rfl
set_option maxHeartbeats 1000000 in
theorem yp_rowS (hR : yp_RCc B mm A) (d p m o : Nat) (hs : yp_SH B (B + 33 + d) = some (.inl m)) (hm : p + (m - p) = m) (hm2 : m < 8000) (h : ∀ k, k < m - p → mm (B + 33 + d) (p + k) = yp_sH A (o + k)) : fX11_sum (yp_SH B) (B + 33 + d) (yp_N p) (yp_N m) mm = some (yp_sm (fun k => yp_sH A (o + k)) (m - p)) := by
  have := yp_h_sum (sh := yp_SH B) (mm := mm) hs p (m - p) h (by omega) (by omega) (by omega)
  rw [hm] at this
  exact this
set_option maxHeartbeats 1000000 in
theorem yp_p_told (hR : yp_RCc B mm A) (hI : yp_INV A) (x : Int32) : yp_PM B (fX11_told (yp_SH B) B x mm) (fun m => fX12_told (yp_SH B) (B + 517) x m) hcI mm A := by
  have hA := yp_clsS B
  have hX := yp_HSx (yp_hs33 B)
  have hM := yp_mS B
  have hn := @yp_nd1 B mm
  have hq := hI.1.1
  have hS := yp_hs33 B
  have hH := hR.2.1
  have bad : (x < yp_N 0 ∨ yp_N 11 < x) → yp_PM B (fX11_told (yp_SH B) B x mm) (fun m => fX12_told (yp_SH B) (B + 517) x m) hcI mm A := by
    intro hb
    refine ⟨.inr 1, yp_N 1, yp_N 0, yp_ex1 A, hI.e1, yp_CA_e1 hR hI ?_, fun m hm => ?_, .inr ⟨1, rfl, rfl, yp_n1⟩⟩
    · have h0 := @yp_nd0 B mm A hR
      by_cases e : x < yp_N 0
      · simp (disch := omega) only [fX11_told, fX11_told_j15, fX11_told_j16, hA, ↓h0, ↓yp_smL, ↓yp_smR, e, Nat.reduceAdd, Nat.reduceMul, Nat.reduceSub, Nat.zero_add, Nat.add_zero, yp_LT, yp_nA, yp_nM, yp_ltF, yp_ltT, yp_leF, yp_leT, yp_eqF, eq_self, yp_eqM, lt1, yp_sbN, yp_sb2N, ↓reduceIte, ↓yp_iP11, ↓yp_iP12, ↓yp_m0P]
      · have e2 := hb.resolve_left e
        simp (disch := omega) only [fX11_told, fX11_told_j15, fX11_told_j16, hA, ↓h0, ↓yp_smL, ↓yp_smR, e, e2, Nat.reduceAdd, Nat.reduceMul, Nat.reduceSub, Nat.zero_add, Nat.add_zero, yp_LT, yp_nA, yp_nM, yp_ltF, yp_ltT, yp_leF, yp_leT, yp_eqF, eq_self, yp_eqM, lt1, yp_sbN, yp_sb2N, ↓reduceIte, ↓yp_iP11, ↓yp_iP12, ↓yp_m0P]
    · have e : fX12_within x (yp_N 0) (yp_N 11) = some (yp_N 0) := by
        rw [yp_m_wi]
        by_cases e : x < yp_N 0
        · rw [if_pos e]
        · rw [if_neg e, if_pos (hb.resolve_left e)]
      refine yp_MA_e (k := 1) (w := yp_N 0) (by omega) hm ?_ yp_n1
      simp (disch := omega) only [fX12_told, hM, yp_m0e, e, yp_may0 B (yp_m0 B m) (yp_N 1) 1 (by omega) yp_n1 (yp_m0t B m), Nat.reduceAdd, Nat.reduceMul, Nat.reduceSub, Nat.zero_add, Nat.add_zero, yp_LT, yp_nA, yp_nM, yp_ltF, yp_ltT, yp_leF, yp_leT, yp_eqF, eq_self, yp_eqM, lt1, yp_sbN, yp_sb2N, ↓reduceIte, ↓yp_iP11, ↓yp_iP12, ↓yp_m0P]
  have good : ∀ (k : Nat) (v : Int32), k ≤ 11 → x = yp_N k → fX11_told (yp_SH B) B (yp_N k) mm = some (.inl v, mm) → (∀ m, yp_RMm B m A → ∃ m2, fX12_told (yp_SH B) (B + 517) (yp_N k) m = some (v, m2) ∧ m2 (B + 517) 0 = yp_N 0 ∧ yp_Fr (yp_FS B) (yp_m0 B m) m2) → yp_PM B (fX11_told (yp_SH B) B x mm) (fun m => fX12_told (yp_SH B) (B + 517) x m) hcI mm A := by
    intro k v hk hx h1 h2
    subst hx
    refine ⟨.inl v, yp_N 0, v, A, hI, yp_CA_v hR hI h1 yp_KC_rf, fun m hm => ?_, .inl ⟨rfl, rfl⟩⟩
    obtain ⟨m2, e1, e2, e3⟩ := h2 m hm
    exact yp_MA_v hm e1 e2 (yp_FS_ok e3)
  rcases yp_rng x 11 (by omega) with ⟨k, hk, hx⟩ | h | h
  · have wi : fX12_within (yp_N k) (yp_N 0) (yp_N 11) = some (yp_N 1) := by
      rw [yp_m_wi, if_neg (by rw [yp_ltN (by omega) (by omega)]; omega), if_neg (by rw [yp_ltN (by omega) (by omega)]; omega)]
    have cl := (fun (_ : k ≤ 11) => (show (k < 0) = False by simp only [eq_iff_iff, iff_false]; omega)) hk
    have cl2 := (fun (_ : k ≤ 11) => (show (11 < k) = False by simp only [eq_iff_iff, iff_false]; omega)) hk
    have step : ∀ m, yp_RMm B m A → ∃ m2, yp_HM m2 (B + 533) (yp_sH A) ∧ yp_CLm B m2 (yp_sQ A) ∧ yp_RMm B m2 A ∧ m2 (B + 517) 0 = yp_N 0 ∧ yp_Fr (yp_FS B) (yp_m0 B m) m2 ∧ fX12_take (yp_SH B) (B + 517) (yp_m0 B m) = some m2 := fun m hm => by
      obtain ⟨m2, a1, a2, a3, a4, a5, a6⟩ := yp_take_MA hm
      exact ⟨m2, a2, a3, a4, a5, a6, a1⟩
    have my := fun m => yp_may1 B (yp_m0 B m) (yp_N 1) (yp_N 1) (yp_m0t B m)
    have c1 := hR.1.1
    have c2 := hR.1.2.1
    have c3 := hR.1.2.2.1
    have : k = 0 ∨ k = 1 ∨ k = 2 ∨ k = 3 ∨ k = 4 ∨ k = 5 ∨ k = 6 ∨ k = 7 ∨ k = 8 ∨ k = 9 ∨ k = 10 ∨ k = 11 := by omega
    rcases this with rfl | rfl | rfl | rfl | rfl | rfl | rfl | rfl | rfl | rfl | rfl | rfl
    · refine good 0 (yp_N (yp_qf (yp_sQ A))) (by omega) hx ?_ (fun m hm => ?_)
      · simp (disch := omega) only [fX11_told, fX11_told_j15, fX11_told_j16, hA, ↓hn, ↓yp_smL, ↓yp_smR, c1, Nat.reduceAdd, Nat.reduceMul, Nat.reduceSub, Nat.zero_add, Nat.add_zero, yp_LT, yp_nA, yp_nM, yp_ltF, yp_ltT, yp_leF, yp_leT, yp_eqF, eq_self, yp_eqM, lt1, yp_sbN, yp_sb2N, ↓reduceIte, ↓yp_iP11, ↓yp_iP12, ↓yp_m0P]
      · obtain ⟨m2, a2, a3, a4, a5, a6, a1⟩ := step m hm
        exact ⟨m2, by simp (disch := omega) only [fX12_told, fX12_told_j75, hM, yp_m0e, wi, my, a1, a3.1, Nat.one_ne_zero, (show (4 ≤ 0) = False by simp only [eq_iff_iff, iff_false]; omega), Nat.reduceAdd, Nat.reduceMul, Nat.reduceSub, Nat.zero_add, Nat.add_zero, yp_LT, yp_nA, yp_nM, yp_ltF, yp_ltT, yp_leF, yp_leT, yp_eqF, eq_self, yp_eqM, lt1, yp_sbN, yp_sb2N, ↓reduceIte, ↓yp_iP11, ↓yp_iP12, ↓yp_m0P], a5, a6⟩
    · refine good 1 (yp_N (yp_qg (yp_sQ A))) (by omega) hx ?_ (fun m hm => ?_)
      · simp (disch := omega) only [fX11_told, fX11_told_j15, fX11_told_j16, hA, ↓hn, ↓yp_smL, ↓yp_smR, c2, Nat.reduceAdd, Nat.reduceMul, Nat.reduceSub, Nat.zero_add, Nat.add_zero, yp_LT, yp_nA, yp_nM, yp_ltF, yp_ltT, yp_leF, yp_leT, yp_eqF, eq_self, yp_eqM, lt1, yp_sbN, yp_sb2N, ↓reduceIte, ↓yp_iP11, ↓yp_iP12, ↓yp_m0P]
      · obtain ⟨m2, a2, a3, a4, a5, a6, a1⟩ := step m hm
        exact ⟨m2, by simp (disch := omega) only [fX12_told, fX12_told_j75, hM, yp_m0e, wi, my, a1, a3.2.1, Nat.one_ne_zero, Nat.reduceAdd, Nat.reduceMul, Nat.reduceSub, Nat.zero_add, Nat.add_zero, yp_LT, yp_nA, yp_nM, yp_ltF, yp_ltT, yp_leF, yp_leT, yp_eqF, eq_self, yp_eqM, lt1, yp_sbN, yp_sb2N, ↓reduceIte, ↓yp_iP11, ↓yp_iP12, ↓yp_m0P], a5, a6⟩
    · refine good 2 (yp_N (yp_qw (yp_sQ A))) (by omega) hx ?_ (fun m hm => ?_)
      · simp (disch := omega) only [fX11_told, fX11_told_j15, fX11_told_j16, hA, ↓hn, ↓yp_smL, ↓yp_smR, c3, Nat.reduceAdd, Nat.reduceMul, Nat.reduceSub, Nat.zero_add, Nat.add_zero, yp_LT, yp_nA, yp_nM, yp_ltF, yp_ltT, yp_leF, yp_leT, yp_eqF, eq_self, yp_eqM, lt1, yp_sbN, yp_sb2N, ↓reduceIte, ↓yp_iP11, ↓yp_iP12, ↓yp_m0P]
      · obtain ⟨m2, a2, a3, a4, a5, a6, a1⟩ := step m hm
        exact ⟨m2, by simp (disch := omega) only [fX12_told, fX12_told_j75, hM, yp_m0e, wi, my, a1, a3.2.2.1, Nat.one_ne_zero, Nat.reduceAdd, Nat.reduceMul, Nat.reduceSub, Nat.zero_add, Nat.add_zero, yp_LT, yp_nA, yp_nM, yp_ltF, yp_ltT, yp_leF, yp_leT, yp_eqF, eq_self, yp_eqM, lt1, yp_sbN, yp_sb2N, ↓reduceIte, ↓yp_iP11, ↓yp_iP12, ↓yp_m0P], a5, a6⟩
    · refine good 3 (yp_sH A 174) (by omega) hx ?_ (fun m hm => ?_)
      · simp (disch := omega) only [fX11_told, fX11_told_j15, fX11_told_j16, hA, hX, ↓hn, ↓yp_smL, ↓yp_smR, hH.2.2.2.2.2, Nat.reduceAdd, Nat.reduceMul, Nat.reduceSub, Nat.zero_add, Nat.add_zero, yp_LT, yp_nA, yp_nM, yp_ltF, yp_ltT, yp_leF, yp_leT, yp_eqF, eq_self, yp_eqM, lt1, yp_sbN, yp_sb2N, ↓reduceIte, ↓yp_iP11, ↓yp_iP12, ↓yp_m0P]
      · obtain ⟨m2, a2, a3, a4, a5, a6, a1⟩ := step m hm
        exact ⟨m2, by simp (disch := omega) only [fX12_told, fX12_told_j75, hM, yp_m0e, wi, my, a1, a2 174 (by omega), Nat.one_ne_zero, Nat.reduceAdd, Nat.reduceMul, Nat.reduceSub, Nat.zero_add, Nat.add_zero, yp_LT, yp_nA, yp_nM, yp_ltF, yp_ltT, yp_leF, yp_leT, yp_eqF, eq_self, yp_eqM, lt1, yp_sbN, yp_sb2N, ↓reduceIte, ↓yp_iP11, ↓yp_iP12, ↓yp_m0P], a5, a6⟩
    · refine good 4 (yp_fo (yp_wbG (yp_sH A)) 6 (yp_N 0)) (by omega) hx ?_ (fun m hm => ?_)
      · simp (disch := omega) only [fX11_told, fX11_told_j15, fX11_told_j16, hA, hX, ↓hn, ↓yp_smL, ↓yp_smR, yp_h_whites hS hH, Nat.reduceAdd, Nat.reduceMul, Nat.reduceSub, Nat.zero_add, Nat.add_zero, yp_LT, yp_nA, yp_nM, yp_ltF, yp_ltT, yp_leF, yp_leT, yp_eqF, eq_self, yp_eqM, lt1, yp_sbN, yp_sb2N, ↓reduceIte, ↓yp_iP11, ↓yp_iP12, ↓yp_m0P]
      · obtain ⟨m2, a2, a3, a4, a5, a6, a1⟩ := step m hm
        exact ⟨m2, by simp (disch := omega) only [fX12_told, fX12_told_j98, hM, yp_m0e, wi, my, a1, yp_m_whites a2 a3.1 hq, yp_whites_eq hI.2.1 hq, Nat.one_ne_zero, Nat.reduceAdd, Nat.reduceMul, Nat.reduceSub, Nat.zero_add, Nat.add_zero, yp_LT, yp_nA, yp_nM, yp_ltF, yp_ltT, yp_leF, yp_leT, yp_eqF, eq_self, yp_eqM, lt1, yp_sbN, yp_sb2N, ↓reduceIte, ↓yp_iP11, ↓yp_iP12, ↓yp_m0P], a5, a6⟩
    · refine good 5 (yp_fo (yp_ltG (yp_sH A) (yp_N 0)) 42 (yp_N 0)) (by omega) hx ?_ (fun m hm => ?_)
      · simp (disch := omega) only [fX11_told, fX11_told_j15, fX11_told_j16, hA, hX, ↓hn, ↓yp_smL, ↓yp_smR, yp_h_lit hS hH, Nat.reduceAdd, Nat.reduceMul, Nat.reduceSub, Nat.zero_add, Nat.add_zero, yp_LT, yp_nA, yp_nM, yp_ltF, yp_ltT, yp_leF, yp_leT, yp_eqF, eq_self, yp_eqM, lt1, yp_sbN, yp_sb2N, ↓reduceIte, ↓yp_iP11, ↓yp_iP12, ↓yp_m0P]
      · obtain ⟨m2, a2, a3, a4, a5, a6, a1⟩ := step m hm
        exact ⟨m2, by simp (disch := omega) only [fX12_told, fX12_told_j98, hM, yp_m0e, wi, my, a1, yp_m_scat a2 a3.1 hq, yp_lit_eq hI.2.1 hq 0 (by omega), Nat.one_ne_zero, Nat.reduceAdd, Nat.reduceMul, Nat.reduceSub, Nat.zero_add, Nat.add_zero, yp_LT, yp_nA, yp_nM, yp_ltF, yp_ltT, yp_leF, yp_leT, yp_eqF, eq_self, yp_eqM, lt1, yp_sbN, yp_sb2N, ↓reduceIte, ↓yp_iP11, ↓yp_iP12, ↓yp_m0P]; rfl, a5, a6⟩
    · refine good 6 (yp_sm (fun k => yp_sH A (0 + k)) 42) (by omega) hx ?_ (fun m hm => ?_)
      · have e := yp_rowS hR 1 0 42 0 hS.2.1 (by omega) (by omega) (fun k hk => by rw [Nat.zero_add]; exact hH.1 k hk)
        simp (disch := omega) only [fX11_told, fX11_told_j15, fX11_told_j16, hA, hX, ↓hn, ↓yp_smL, ↓yp_smR, Nat.reduceAdd, Nat.reduceMul, Nat.reduceSub, Nat.zero_add, Nat.add_zero, yp_LT, yp_nA, yp_nM, yp_ltF, yp_ltT, yp_leF, yp_leT, yp_eqF, eq_self, yp_eqM, lt1, yp_sbN, yp_sb2N, ↓reduceIte, ↓yp_iP11, ↓yp_iP12, ↓yp_m0P]
        rw [e]
        rfl
      · obtain ⟨m2, a2, a3, a4, a5, a6, a1⟩ := step m hm
        exact ⟨m2, by simp (disch := omega) only [fX12_told, fX12_told_j129, hM, yp_m0e, wi, my, a1, yp_m_sum a2 0 42 (by omega), Nat.one_ne_zero, Nat.reduceAdd, Nat.reduceMul, Nat.reduceSub, Nat.zero_add, Nat.add_zero, yp_LT, yp_nA, yp_nM, yp_ltF, yp_ltT, yp_leF, yp_leT, yp_eqF, eq_self, yp_eqM, lt1, yp_sbN, yp_sb2N, ↓reduceIte, ↓yp_iP11, ↓yp_iP12, ↓yp_m0P], a5, a6⟩
    · refine good 7 (yp_sm (fun k => yp_sH A (42 + k)) 42) (by omega) hx ?_ (fun m hm => ?_)
      · have e := yp_rowS hR 2 0 42 42 hS.2.2.1 (by omega) (by omega) (fun k hk => by rw [Nat.zero_add]; exact hH.2.1 k hk)
        simp (disch := omega) only [fX11_told, fX11_told_j15, fX11_told_j16, hA, hX, ↓hn, ↓yp_smL, ↓yp_smR, Nat.reduceAdd, Nat.reduceMul, Nat.reduceSub, Nat.zero_add, Nat.add_zero, yp_LT, yp_nA, yp_nM, yp_ltF, yp_ltT, yp_leF, yp_leT, yp_eqF, eq_self, yp_eqM, lt1, yp_sbN, yp_sb2N, ↓reduceIte, ↓yp_iP11, ↓yp_iP12, ↓yp_m0P]
        rw [e]
        rfl
      · obtain ⟨m2, a2, a3, a4, a5, a6, a1⟩ := step m hm
        exact ⟨m2, by simp (disch := omega) only [fX12_told, fX12_told_j129, hM, yp_m0e, wi, my, a1, yp_m_sum a2 42 42 (by omega), Nat.one_ne_zero, Nat.reduceAdd, Nat.reduceMul, Nat.reduceSub, Nat.zero_add, Nat.add_zero, yp_LT, yp_nA, yp_nM, yp_ltF, yp_ltT, yp_leF, yp_leT, yp_eqF, eq_self, yp_eqM, lt1, yp_sbN, yp_sb2N, ↓reduceIte, ↓yp_iP11, ↓yp_iP12, ↓yp_m0P], a5, a6⟩
    · refine good 8 (yp_sm (fun k => yp_sH A (126 + k)) 42) (by omega) hx ?_ (fun m hm => ?_)
      · have e := yp_rowS hR 4 0 42 126 hS.2.2.2.2.1 (by omega) (by omega) (fun k hk => by rw [Nat.zero_add]; exact hH.2.2.2.1 k hk)
        simp (disch := omega) only [fX11_told, fX11_told_j15, fX11_told_j16, hA, hX, ↓hn, ↓yp_smL, ↓yp_smR, Nat.reduceAdd, Nat.reduceMul, Nat.reduceSub, Nat.zero_add, Nat.add_zero, yp_LT, yp_nA, yp_nM, yp_ltF, yp_ltT, yp_leF, yp_leT, yp_eqF, eq_self, yp_eqM, lt1, yp_sbN, yp_sb2N, ↓reduceIte, ↓yp_iP11, ↓yp_iP12, ↓yp_m0P]
        rw [e]
        rfl
      · obtain ⟨m2, a2, a3, a4, a5, a6, a1⟩ := step m hm
        exact ⟨m2, by simp (disch := omega) only [fX12_told, fX12_told_j129, hM, yp_m0e, wi, my, a1, yp_m_sum a2 126 42 (by omega), Nat.one_ne_zero, Nat.reduceAdd, Nat.reduceMul, Nat.reduceSub, Nat.zero_add, Nat.add_zero, yp_LT, yp_nA, yp_nM, yp_ltF, yp_ltT, yp_leF, yp_leT, yp_eqF, eq_self, yp_eqM, lt1, yp_sbN, yp_sb2N, ↓reduceIte, ↓yp_iP11, ↓yp_iP12, ↓yp_m0P], a5, a6⟩
    · refine good 9 (yp_N (yp_sL A)) (by omega) hx ?_ (fun m hm => ?_)
      · simp (disch := omega) only [fX11_told, fX11_told_j15, fX11_told_j16, hA, hX, ↓hn, ↓yp_smL, ↓yp_smR, hR.2.2.2.2.1.1, Nat.reduceAdd, Nat.reduceMul, Nat.reduceSub, Nat.zero_add, Nat.add_zero, yp_LT, yp_nA, yp_nM, yp_ltF, yp_ltT, yp_leF, yp_leT, yp_eqF, eq_self, yp_eqM, lt1, yp_sbN, yp_sb2N, ↓reduceIte, ↓yp_iP11, ↓yp_iP12, ↓yp_m0P]
      · obtain ⟨m2, a2, a3, a4, a5, a6, a1⟩ := step m hm
        exact ⟨m2, by simp (disch := omega) only [fX12_told, fX12_told_j170, hM, yp_m0e, wi, my, a1, a4.2.2.2.2.1.1, Nat.one_ne_zero, Nat.reduceAdd, Nat.reduceMul, Nat.reduceSub, Nat.zero_add, Nat.add_zero, yp_LT, yp_nA, yp_nM, yp_ltF, yp_ltT, yp_leF, yp_leT, yp_eqF, eq_self, yp_eqM, lt1, yp_sbN, yp_sb2N, ↓reduceIte, ↓yp_iP11, ↓yp_iP12, ↓yp_m0P], a5, a6⟩
    · refine good 10 (yp_sR A) (by omega) hx ?_ (fun m hm => ?_)
      · simp (disch := omega) only [fX11_told, fX11_told_j15, fX11_told_j16, hA, hX, ↓hn, ↓yp_smL, ↓yp_smR, hR.2.2.2.2.2.2.1.1, Nat.reduceAdd, Nat.reduceMul, Nat.reduceSub, Nat.zero_add, Nat.add_zero, yp_LT, yp_nA, yp_nM, yp_ltF, yp_ltT, yp_leF, yp_leT, yp_eqF, eq_self, yp_eqM, lt1, yp_sbN, yp_sb2N, ↓reduceIte, ↓yp_iP11, ↓yp_iP12, ↓yp_m0P]
      · obtain ⟨m2, a2, a3, a4, a5, a6, a1⟩ := step m hm
        exact ⟨m2, by simp (disch := omega) only [fX12_told, fX12_told_j170, hM, yp_m0e, wi, my, a1, a4.2.2.2.2.2.2.1, Nat.one_ne_zero, Nat.reduceAdd, Nat.reduceMul, Nat.reduceSub, Nat.zero_add, Nat.add_zero, yp_LT, yp_nA, yp_nM, yp_ltF, yp_ltT, yp_leF, yp_leT, yp_eqF, eq_self, yp_eqM, lt1, yp_sbN, yp_sb2N, ↓reduceIte, ↓yp_iP11, ↓yp_iP12, ↓yp_m0P], a5, a6⟩
    · refine good 11 (yp_sm (fun k => yp_sH A (168 + k)) 6) (by omega) hx ?_ (fun m hm => ?_)
      · have e := yp_rowS hR 5 0 6 168 hS.2.2.2.2.2 (by omega) (by omega) (fun k hk => by rw [Nat.zero_add]; exact hH.2.2.2.2.1 k hk)
        simp (disch := omega) only [fX11_told, fX11_told_j15, fX11_told_j16, hA, hX, ↓hn, ↓yp_smL, ↓yp_smR, Nat.reduceAdd, Nat.reduceMul, Nat.reduceSub, Nat.zero_add, Nat.add_zero, yp_LT, yp_nA, yp_nM, yp_ltF, yp_ltT, yp_leF, yp_leT, yp_eqF, eq_self, yp_eqM, lt1, yp_sbN, yp_sb2N, ↓reduceIte, ↓yp_iP11, ↓yp_iP12, ↓yp_m0P]
        rw [e]
        rfl
      · obtain ⟨m2, a2, a3, a4, a5, a6, a1⟩ := step m hm
        exact ⟨m2, by simp (disch := omega) only [fX12_told, fX12_told_j170, hM, yp_m0e, wi, my, a1, yp_m_sum a2 168 6 (by omega), Nat.one_ne_zero, Nat.reduceAdd, Nat.reduceMul, Nat.reduceSub, Nat.zero_add, Nat.add_zero, yp_LT, yp_nA, yp_nM, yp_ltF, yp_ltT, yp_leF, yp_leT, yp_eqF, eq_self, yp_eqM, lt1, yp_sbN, yp_sb2N, ↓reduceIte, ↓yp_iP11, ↓yp_iP12, ↓yp_m0P], a5, a6⟩
  · exact bad (.inl h.1)
  · exact bad (.inr h.2)
end TOLD

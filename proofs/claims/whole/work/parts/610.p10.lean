def yp_zs (v : Nat → Int) : Nat → Int
  | 0 => 0
  | n + 1 => yp_zs v n + v n
def yp_HI (Q : yp_EnvT) (H : Nat → Int32) : Prop := (∀ k, k < 42 → 0 ≤ (H k).toInt ∧ 0 ≤ (H (42 + k)).toInt ∧ 0 ≤ (H (126 + k)).toInt ∧ 0 ≤ (H (84 + k)).toInt ∧ (H (84 + k)).toInt < yp_qw Q) ∧ (∀ k, k < 42 → yp_qf Q * 7 ≤ k → H k = yp_N 0 ∧ H (42 + k) = yp_N 0 ∧ H (126 + k) = yp_N 0) ∧ yp_zs (fun k => (H k).toInt + (H (42 + k)).toInt + (H (126 + k)).toInt) 42 ≤ 1680
abbrev yp_HallT : Type := Nat → Int32
abbrev yp_St : Type := yp_EnvT × yp_HallT × (Nat × (Nat → yp_HallT)) × (Nat × (Nat → yp_HallT × Nat × (Nat → yp_HallT))) × (Nat × (Nat → Int32) × (Nat → Int32)) × (Nat × (Nat → Int32)) × Int32 × Int32 × Int32 × Int32
abbrev yp_sQ (A : yp_St) : yp_EnvT := A.1
abbrev yp_sH (A : yp_St) : yp_HallT := A.2.1
abbrev yp_sW (A : yp_St) : Nat := A.2.2.1.1
abbrev yp_sP (A : yp_St) : Nat → yp_HallT := A.2.2.1.2
abbrev yp_sI (A : yp_St) : Nat := A.2.2.2.1.1
abbrev yp_sJ (A : yp_St) : Nat → yp_HallT × Nat × (Nat → yp_HallT) := A.2.2.2.1.2
abbrev yp_sL (A : yp_St) : Nat := A.2.2.2.2.1.1
abbrev yp_sLp (A : yp_St) : Nat → Int32 := A.2.2.2.2.1.2.1
abbrev yp_sLm (A : yp_St) : Nat → Int32 := A.2.2.2.2.1.2.2
abbrev yp_sF (A : yp_St) : Nat := A.2.2.2.2.2.1.1
abbrev yp_sT (A : yp_St) : Nat → Int32 := A.2.2.2.2.2.1.2
abbrev yp_sX (A : yp_St) : Int32 := A.2.2.2.2.2.2.1
abbrev yp_sR (A : yp_St) : Int32 := A.2.2.2.2.2.2.2.1
abbrev yp_sC0 (A : yp_St) : Int32 := A.2.2.2.2.2.2.2.2.1
abbrev yp_sC1 (A : yp_St) : Int32 := A.2.2.2.2.2.2.2.2.2
def yp_INV (A : yp_St) : Prop := yp_EV (yp_sQ A) ∧ yp_HI (yp_sQ A) (yp_sH A) ∧ (yp_sW A ≤ 16 ∧ ∀ i, i < yp_sW A → yp_HI (yp_sQ A) (yp_sP A i)) ∧ (yp_sI A ≤ 3 ∧ ∀ i, i < yp_sI A → yp_HI (yp_sQ A) (yp_sJ A i).1 ∧ (yp_sJ A i).2.1 ≤ 16 ∧ ∀ j, j < (yp_sJ A i).2.1 → yp_HI (yp_sQ A) ((yp_sJ A i).2.2 j)) ∧ (yp_sL A ≤ 8 ∧ ∀ i, i < yp_sL A → 0 ≤ (yp_sLp A i).toInt ∧ (yp_sLp A i).toInt < yp_qw (yp_sQ A)) ∧ (yp_sF A ≤ 600 ∧ ∀ k, k < yp_sF A → 0 ≤ (yp_sT A k).toInt ∧ (yp_sT A k).toInt < 256)
def yp_RCc (B : Nat) (mm : Mem) (A : yp_St) : Prop := yp_CLc B mm (yp_sQ A) ∧ yp_HC mm (B + 33) (yp_sH A) ∧ (mm (B + 39) 1 = yp_N (yp_sW A) ∧ ∀ i, i < yp_sW A → yp_HC mm (B + (41 + 6 * i)) (yp_sP A i)) ∧ (mm B 12 = yp_N (yp_sI A) ∧ ∀ i, i < yp_sI A → yp_HC mm (B + (139 + 105 * i)) (yp_sJ A i).1 ∧ mm (B + (145 + 105 * i)) 1 = yp_N (yp_sJ A i).2.1 ∧ ∀ j, j < (yp_sJ A i).2.1 → yp_HC mm (B + (147 + 105 * i + 6 * j)) ((yp_sJ A i).2.2 j)) ∧ (mm (B + 17) 2 = yp_N (yp_sL A) ∧ (∀ i, i < yp_sL A → mm (B + 18) i = yp_sLp A i) ∧ (∀ i, i < yp_sL A → mm (B + 19) i = yp_sLm A i)) ∧ (mm (B + 1) 1 = yp_N (yp_sF A) ∧ (∀ k, k < yp_sF A → mm (B + 2) k = yp_sT A k) ∧ mm (B + 1) 5 = yp_sX A) ∧ (mm B 13 = yp_sR A ∧ mm B 16 = yp_sC0 A ∧ mm B 17 = yp_sC1 A) ∧ (∀ k, k < 1681 → mm (B + 509) k = yp_N 0)
def yp_RMm (B : Nat) (mm : Mem) (A : yp_St) : Prop := yp_CLm B mm (yp_sQ A) ∧ yp_HM mm (B + 532) (yp_sH A) ∧ (mm (B + 517) 31 = yp_N (yp_sW A) ∧ ∀ i, i < yp_sW A → ∀ k, k < 175 → mm (B + 534) (175 * i + k) = yp_sP A i k) ∧ (mm (B + 517) 49 = yp_N (yp_sI A) ∧ ∀ i, i < yp_sI A → (∀ k, k < 175 → mm (B + 541) (2976 * i + k) = (yp_sJ A i).1 k) ∧ mm (B + 541) (2976 * i + 2975) = yp_N (yp_sJ A i).2.1 ∧ ∀ j, j < (yp_sJ A i).2.1 → ∀ k, k < 175 → mm (B + 541) (2976 * i + 175 + (175 * j + k)) = (yp_sJ A i).2.2 j k) ∧ (mm (B + 517) 42 = yp_N (yp_sL A) ∧ (∀ i, i < yp_sL A → mm (B + 537) (2 * i) = yp_sLp A i) ∧ (∀ i, i < yp_sL A → mm (B + 537) (2 * i + 1) = yp_sLm A i)) ∧ (mm (B + 517) 2 = yp_N (yp_sF A) ∧ (∀ k, k < yp_sF A → mm (B + 519) k = yp_sT A k) ∧ mm (B + 517) 8 = yp_sX A) ∧ (mm (B + 517) 32 = yp_sR A ∧ mm (B + 518) 0 = yp_sC0 A ∧ mm (B + 518) 1 = yp_sC1 A)
def yp_KC (B a j : Nat) : Prop := (a = B ∧ (j = 12 ∨ j = 13 ∨ j = 16 ∨ j = 17)) ∨ (a = B + 1 ∧ (j = 1 ∨ j = 5)) ∨ a = B + 2 ∨ a = B + 3 ∨ a = B + 5 ∨ a = B + 6 ∨ a = B + 11 ∨ a = B + 12 ∨ a = B + 17 ∨ a = B + 18 ∨ a = B + 19 ∨ (B + 33 ≤ a ∧ a ≤ B + 452) ∨ a = B + 509
def yp_KM (B a j : Nat) : Prop := (a = B + 517 ∧ (j = 2 ∨ j = 8 ∨ j = 17 ∨ j = 18 ∨ j = 19 ∨ j = 26 ∨ j = 31 ∨ j = 32 ∨ j = 42 ∨ j = 49)) ∨ a = B + 518 ∨ a = B + 519 ∨ a = B + 523 ∨ a = B + 526 ∨ a = B + 527 ∨ a = B + 532 ∨ a = B + 534 ∨ a = B + 537 ∨ a = B + 541
set_option maxHeartbeats 1000000 in
theorem yp_RCc.fr {B : Nat} {mm mm' : Mem} {A : yp_St} (h : yp_RCc B mm A) (hI : yp_INV A) (hF : ∀ a j, yp_KC B a j → mm' a j = mm a j) : yp_RCc B mm' A := by
  obtain ⟨h1, h2, ⟨h3, h4⟩, ⟨h5, h6⟩, ⟨h7, h8, h9⟩, ⟨h10, h11, h12⟩, ⟨h13, h14, h15⟩, h16⟩ := h
  have iW := hI.2.2.1.1
  have iI := hI.2.2.2.1.1
  refine ⟨h1.fr (fun a j h => hF a j (by unfold yp_KC; omega)), h2.same (fun a j q1 q2 => hF a j (by unfold yp_KC; omega)), ⟨(hF _ _ (by unfold yp_KC; omega)).trans h3, fun i hi => (h4 i hi).same (fun a j q1 q2 => hF a j (by unfold yp_KC; omega))⟩, ⟨(hF _ _ (by unfold yp_KC; omega)).trans h5, fun i hi => ⟨(h6 i hi).1.same (fun a j q1 q2 => hF a j (by unfold yp_KC; omega)), (hF _ _ (by unfold yp_KC; omega)).trans (h6 i hi).2.1, fun j hj => ((h6 i hi).2.2 j hj).same (fun a q q1 q2 => hF a q (by have := (hI.2.2.2.1.2 i hi).2.1; unfold yp_KC; omega))⟩⟩, ⟨(hF _ _ (by unfold yp_KC; omega)).trans h7, fun i hi => (hF _ _ (by unfold yp_KC; omega)).trans (h8 i hi), fun i hi => (hF _ _ (by unfold yp_KC; omega)).trans (h9 i hi)⟩, ⟨(hF _ _ (by unfold yp_KC; omega)).trans h10, fun k hk => (hF _ _ (by unfold yp_KC; omega)).trans (h11 k hk), (hF _ _ (by unfold yp_KC; omega)).trans h12⟩, ⟨(hF _ _ (by unfold yp_KC; omega)).trans h13, (hF _ _ (by unfold yp_KC; omega)).trans h14, (hF _ _ (by unfold yp_KC; omega)).trans h15⟩, fun k hk => (hF _ _ (by unfold yp_KC; omega)).trans (h16 k hk)⟩
set_option maxHeartbeats 1000000 in
theorem yp_RMm.fr {B : Nat} {mm mm' : Mem} {A : yp_St} (h : yp_RMm B mm A) (hF : ∀ a j, yp_KM B a j → mm' a j = mm a j) : yp_RMm B mm' A := by
  obtain ⟨h1, h2, ⟨h3, h4⟩, ⟨h5, h6⟩, ⟨h7, h8, h9⟩, ⟨h10, h11, h12⟩, ⟨h13, h14, h15⟩⟩ := h
  refine ⟨h1.fr (fun a j h => hF a j (by unfold yp_KM; omega)), h2.same (fun j => hF _ j (by unfold yp_KM; omega)), ⟨(hF _ _ (by unfold yp_KM; omega)).trans h3, fun i hi k hk => (hF _ _ (by unfold yp_KM; omega)).trans (h4 i hi k hk)⟩, ⟨(hF _ _ (by unfold yp_KM; omega)).trans h5, fun i hi => ⟨fun k hk => (hF _ _ (by unfold yp_KM; omega)).trans ((h6 i hi).1 k hk), (hF _ _ (by unfold yp_KM; omega)).trans (h6 i hi).2.1, fun j hj k hk => (hF _ _ (by unfold yp_KM; omega)).trans ((h6 i hi).2.2 j hj k hk)⟩⟩, ⟨(hF _ _ (by unfold yp_KM; omega)).trans h7, fun i hi => (hF _ _ (by unfold yp_KM; omega)).trans (h8 i hi), fun i hi => (hF _ _ (by unfold yp_KM; omega)).trans (h9 i hi)⟩, ⟨(hF _ _ (by unfold yp_KM; omega)).trans h10, fun k hk => (hF _ _ (by unfold yp_KM; omega)).trans (h11 k hk), (hF _ _ (by unfold yp_KM; omega)).trans h12⟩, ⟨(hF _ _ (by unfold yp_KM; omega)).trans h13, (hF _ _ (by unfold yp_KM; omega)).trans h14, (hF _ _ (by unfold yp_KM; omega)).trans h15⟩⟩
def yp_ex0 (A : yp_St) : yp_St := (A.1, A.2.1, A.2.2.1, A.2.2.2.1, A.2.2.2.2.1, A.2.2.2.2.2.1, A.2.2.2.2.2.2.1, A.2.2.2.2.2.2.2.1, yp_sC0 A + yp_N 1, yp_sC1 A)
def yp_ex1 (A : yp_St) : yp_St := (A.1, A.2.1, A.2.2.1, A.2.2.2.1, A.2.2.2.2.1, A.2.2.2.2.2.1, A.2.2.2.2.2.2.1, A.2.2.2.2.2.2.2.1, yp_sC0 A, yp_sC1 A + yp_N 1)
set_option maxHeartbeats 1000000 in
theorem yp_INV.e0 {A : yp_St} (h : yp_INV A) : yp_INV (yp_ex0 A) := h
set_option maxHeartbeats 1000000 in
theorem yp_INV.e1 {A : yp_St} (h : yp_INV A) : yp_INV (yp_ex1 A) := h
set_option maxHeartbeats 1000000 in
theorem yp_RCc.e0 {B : Nat} {mm : Mem} {A : yp_St} (h : yp_RCc B mm A) (hI : yp_INV A) : yp_RCc B (up2 mm B 16 (yp_sC0 A + yp_N 1)) (yp_ex0 A) := by
  have h2 : yp_RCc B (up2 mm B 16 (yp_sC0 A)) A := h.fr hI (fun a j _ => by
    by_cases e : a = B ∧ j = 16
    · rw [e.1, e.2, yp_up2_s]; exact h.2.2.2.2.2.2.1.2.1.symm
    · rw [yp_up2_n _ _ (by omega)])
  have e : ∀ a j, ¬ (a = B ∧ j = 16) → up2 mm B 16 (yp_sC0 A + yp_N 1) a j = mm a j := fun a j h => yp_up2_n _ _ (by omega)
  obtain ⟨h1, h2, ⟨h3, h4⟩, ⟨h5, h6⟩, ⟨h7, h8, h9⟩, ⟨h10, h11, h12⟩, ⟨h13, h14, h15⟩, h16⟩ := h
  refine ⟨h1.fr (fun a j h => e a j (by omega)), h2.same (fun a j q1 q2 => e a j (by omega)), ⟨(e _ _ (by omega)).trans h3, fun i hi => (h4 i hi).same (fun a j q1 q2 => e a j (by omega))⟩, ⟨(e _ _ (by omega)).trans h5, fun i hi => ⟨(h6 i hi).1.same (fun a j q1 q2 => e a j (by omega)), (e _ _ (by omega)).trans (h6 i hi).2.1, fun j hj => ((h6 i hi).2.2 j hj).same (fun a q q1 q2 => e a q (by omega))⟩⟩, ⟨(e _ _ (by omega)).trans h7, fun i hi => (e _ _ (by omega)).trans (h8 i hi), fun i hi => (e _ _ (by omega)).trans (h9 i hi)⟩, ⟨(e _ _ (by omega)).trans h10, fun k hk => (e _ _ (by omega)).trans (h11 k hk), (e _ _ (by omega)).trans h12⟩, ⟨(e _ _ (by omega)).trans h13, yp_up2_s _ _ _ _, (e _ _ (by omega)).trans h15⟩, fun k hk => (e _ _ (by omega)).trans (h16 k hk)⟩
set_option maxHeartbeats 1000000 in
theorem yp_RCc.e1 {B : Nat} {mm : Mem} {A : yp_St} (h : yp_RCc B mm A) (hI : yp_INV A) : yp_RCc B (up2 mm B 17 (yp_sC1 A + yp_N 1)) (yp_ex1 A) := by
  have e : ∀ a j, ¬ (a = B ∧ j = 17) → up2 mm B 17 (yp_sC1 A + yp_N 1) a j = mm a j := fun a j h => yp_up2_n _ _ (by omega)
  obtain ⟨h1, h2, ⟨h3, h4⟩, ⟨h5, h6⟩, ⟨h7, h8, h9⟩, ⟨h10, h11, h12⟩, ⟨h13, h14, h15⟩, h16⟩ := h
  refine ⟨h1.fr (fun a j h => e a j (by omega)), h2.same (fun a j q1 q2 => e a j (by omega)), ⟨(e _ _ (by omega)).trans h3, fun i hi => (h4 i hi).same (fun a j q1 q2 => e a j (by omega))⟩, ⟨(e _ _ (by omega)).trans h5, fun i hi => ⟨(h6 i hi).1.same (fun a j q1 q2 => e a j (by omega)), (e _ _ (by omega)).trans (h6 i hi).2.1, fun j hj => ((h6 i hi).2.2 j hj).same (fun a q q1 q2 => e a q (by omega))⟩⟩, ⟨(e _ _ (by omega)).trans h7, fun i hi => (e _ _ (by omega)).trans (h8 i hi), fun i hi => (e _ _ (by omega)).trans (h9 i hi)⟩, ⟨(e _ _ (by omega)).trans h10, fun k hk => (e _ _ (by omega)).trans (h11 k hk), (e _ _ (by omega)).trans h12⟩, ⟨(e _ _ (by omega)).trans h13, (e _ _ (by omega)).trans h14, yp_up2_s _ _ _ _⟩, fun k hk => (e _ _ (by omega)).trans (h16 k hk)⟩
set_option maxHeartbeats 1000000 in
theorem yp_RMm.ex {B : Nat} {mm : Mem} {A : yp_St} (h : yp_RMm B mm A) (t v : Int32) (k : Nat) (hk : k < 2) (hv : v = mm (B + 518) k + yp_N 1) : yp_RMm B (up2 (up2 mm (B + 517) 0 t) (B + 518) k v) (if k = 0 then yp_ex0 A else yp_ex1 A) := by
  obtain ⟨m', hm⟩ : ∃ m, m = up2 (up2 mm (B + 517) 0 t) (B + 518) k v := ⟨_, rfl⟩
  rw [← hm]
  have e : ∀ a j, ¬ (a = B + 518 ∧ j = k) → ¬ (a = B + 517 ∧ j = 0) → m' a j = mm a j := fun a j h h2 => by
    rw [hm, yp_up2_n _ _ (by omega), yp_up2_n _ _ (by omega)]
  have e2 : m' (B + 518) k = v := by rw [hm, yp_up2_s]
  obtain ⟨h1, h2, ⟨h3, h4⟩, ⟨h5, h6⟩, ⟨h7, h8, h9⟩, ⟨h10, h11, h12⟩, ⟨h13, h14, h15⟩⟩ := h
  by_cases h0 : k = 0
  · rw [if_pos h0]
    subst h0
    refine ⟨h1.fr (fun a j h => e a j (by omega) (by omega)), h2.same (fun j => e _ j (by omega) (by omega)), ⟨(e _ _ (by omega) (by omega)).trans h3, fun i hi k hk => (e _ _ (by omega) (by omega)).trans (h4 i hi k hk)⟩, ⟨(e _ _ (by omega) (by omega)).trans h5, fun i hi => ⟨fun k hk => (e _ _ (by omega) (by omega)).trans ((h6 i hi).1 k hk), (e _ _ (by omega) (by omega)).trans (h6 i hi).2.1, fun j hj k hk => (e _ _ (by omega) (by omega)).trans ((h6 i hi).2.2 j hj k hk)⟩⟩, ⟨(e _ _ (by omega) (by omega)).trans h7, fun i hi => (e _ _ (by omega) (by omega)).trans (h8 i hi), fun i hi => (e _ _ (by omega) (by omega)).trans (h9 i hi)⟩, ⟨(e _ _ (by omega) (by omega)).trans h10, fun k hk => (e _ _ (by omega) (by omega)).trans (h11 k hk), (e _ _ (by omega) (by omega)).trans h12⟩, ⟨(e _ _ (by omega) (by omega)).trans h13, ?_, (e _ _ (by omega) (by omega)).trans h15⟩⟩
    rw [e2, hv, h14]
    rfl
  · have : k = 1 := by omega
    subst this
    rw [if_neg h0]
    refine ⟨h1.fr (fun a j h => e a j (by omega) (by omega)), h2.same (fun j => e _ j (by omega) (by omega)), ⟨(e _ _ (by omega) (by omega)).trans h3, fun i hi k hk => (e _ _ (by omega) (by omega)).trans (h4 i hi k hk)⟩, ⟨(e _ _ (by omega) (by omega)).trans h5, fun i hi => ⟨fun k hk => (e _ _ (by omega) (by omega)).trans ((h6 i hi).1 k hk), (e _ _ (by omega) (by omega)).trans (h6 i hi).2.1, fun j hj k hk => (e _ _ (by omega) (by omega)).trans ((h6 i hi).2.2 j hj k hk)⟩⟩, ⟨(e _ _ (by omega) (by omega)).trans h7, fun i hi => (e _ _ (by omega) (by omega)).trans (h8 i hi), fun i hi => (e _ _ (by omega) (by omega)).trans (h9 i hi)⟩, ⟨(e _ _ (by omega) (by omega)).trans h10, fun k hk => (e _ _ (by omega) (by omega)).trans (h11 k hk), (e _ _ (by omega) (by omega)).trans h12⟩, ⟨(e _ _ (by omega) (by omega)).trans h13, (e _ _ (by omega) (by omega)).trans h14, ?_⟩⟩
    rw [e2, hv, h15]
    rfl
def yp_CA (B : Nat) (f : Option ((Int32 ⊕ Nat) × Mem)) (mm : Mem) (o : Int32 ⊕ Nat) (A' : yp_St) : Prop := ∃ m1, f = some (o, m1) ∧ yp_RCc B m1 A' ∧ ∀ a j, B + 517 ≤ a → m1 a j = mm a j
def yp_MA (B : Nat) (f : Option (Int32 × Mem)) (mm : Mem) (t v : Int32) (A' : yp_St) : Prop := ∃ m2 w, f = some (w, m2) ∧ m2 (B + 517) 0 = t ∧ (t = yp_N 0 → w = v) ∧ yp_RMm B m2 A' ∧ ∀ a j, a < B + 517 ∨ B + 542 ≤ a → m2 a j = mm a j

section INIT
variable {B : Nat} {m : Mem}
def yp_zM : Mem := fun _ _ => 0
def yp_AZ : yp_St := (yp_clQv yp_z00.2.2, fun _ => 0, (0, fun _ _ => 0), (0, fun _ => (fun _ => 0, 0, fun _ _ => 0)), (0, fun _ => 0, fun _ => 0), (0, fun _ => 0), 0, 0, 0, 0)
def yp_A0 : yp_St := yp_clA yp_AZ yp_z00.2.2
set_option maxHeartbeats 1000000 in
theorem yp_z00J : yp_clJ yp_z00.2.2 := ⟨Nat.zero_le 6, Nat.zero_le 8, by decide, by decide, fun _ => Nat.zero_le 40, fun _ _ => rfl, fun g hg => absurd hg (Nat.not_lt_zero g)⟩
set_option maxHeartbeats 1000000 in
theorem yp_P4_n {x a j : Nat} (h1 : ¬ (a = B + x ∧ j = 2)) (h2 : a ≠ B + (x + 1)) : yp_P4 B x m a j = m a j := by
  unfold yp_P4
  rw [yp_up2_n _ _ (by omega), yp_up2_n _ _ (by omega), yp_up2_n _ _ (by omega), yp_up2_n _ _ (by omega), yp_up2_n _ _ (by omega), yp_up2_n _ _ (by omega)]
set_option maxHeartbeats 1000000 in
theorem yp_P4_v {x k : Nat} (hk : k < 5) : yp_P4 B x m (B + (x + 1)) k = yp_ctok (yp_plainT k) := by
  have : k = 0 ∨ k = 1 ∨ k = 2 ∨ k = 3 ∨ k = 4 := by omega
  unfold yp_P4
  rcases this with rfl | rfl | rfl | rfl | rfl
  · rw [yp_up2_n _ _ (by omega), yp_up2_n _ _ (by omega), yp_up2_n _ _ (by omega), yp_up2_n _ _ (by omega), yp_up2_n _ _ (by omega), yp_up2_s]; try rfl
  · rw [yp_up2_n _ _ (by omega), yp_up2_n _ _ (by omega), yp_up2_n _ _ (by omega), yp_up2_n _ _ (by omega), yp_up2_s]; try rfl
  · rw [yp_up2_n _ _ (by omega), yp_up2_n _ _ (by omega), yp_up2_n _ _ (by omega), yp_up2_s]; try rfl
  · rw [yp_up2_n _ _ (by omega), yp_up2_n _ _ (by omega), yp_up2_s]; try rfl
  · rw [yp_up2_n _ _ (by omega), yp_up2_s]; try rfl
set_option maxHeartbeats 1000000 in
theorem yp_M11_z {a j : Nat} (h1 : ¬ (a = B + 1 ∧ j = 5)) (h2 : ¬ (a = B + 3 ∧ j = 5)) (h3 : a ≠ B + 7) (h4 : a ≠ B + 11) (h5 : a ≠ B + 12) (h6 : a ≠ B + 14) (h7 : a ≠ B + 15) : yp_M11 B yp_zM a j = yp_N 0 := by
  unfold yp_M11
  rw [yp_P4_n (by omega) (by omega), yp_P4_n (by omega) (by omega), yp_up2_n _ _ (by omega), yp_up2_n _ _ (by omega), yp_up2_n _ _ (by omega)]
  rfl
set_option maxHeartbeats 1000000 in
theorem yp_oz (k : Nat) : yp_openH (fun k => yp_N (yp_z00.2.2.2.1 k)) k = yp_N 0 := by
  unfold yp_openH
  split <;> rfl
set_option maxHeartbeats 1000000 in
theorem yp_init_c (h : ∀ a j, a < B + 517 → m a j = yp_M11 B yp_zM a j) : yp_RCc B m yp_A0 := by
  have Z : ∀ a j, a < B + 517 → ¬ (a = B + 1 ∧ j = 5) → ¬ (a = B + 3 ∧ j = 5) → a ≠ B + 7 → a ≠ B + 11 → a ≠ B + 12 → a ≠ B + 14 → a ≠ B + 15 → m a j = yp_N 0 := fun a j h0 h1 h2 h3 h4 h5 h6 h7 => (h a j h0).trans (yp_M11_z h1 h2 h3 h4 h5 h6 h7)
  have Y : ∀ a j k, B + 33 ≤ a → a < B + 517 → m a j = yp_openH (fun k => yp_N (yp_z00.2.2.2.1 k)) k := fun a j k h1 h2 => (Z a j h2 (by omega) (by omega) (by omega) (by omega) (by omega) (by omega) (by omega)).trans (yp_oz k).symm
  have hH : yp_HC m (B + 33) (yp_openH (fun k => yp_N (yp_z00.2.2.2.1 k))) := ⟨fun k _ => Y (B + 33 + 1) k k (by omega) (by omega), fun k _ => Y (B + 33 + 2) k (42 + k) (by omega) (by omega), fun k _ => Y (B + 33 + 3) k (84 + k) (by omega) (by omega), fun k _ => Y (B + 33 + 4) k (126 + k) (by omega) (by omega), fun k _ => Y (B + 33 + 5) k (168 + k) (by omega) (by omega), Y (B + 33) 5 174 (by omega) (by omega)⟩
  refine ⟨⟨Z _ _ (by omega) (by omega) (by omega) (by omega) (by omega) (by omega) (by omega) (by omega), Z _ _ (by omega) (by omega) (by omega) (by omega) (by omega) (by omega) (by omega) (by omega), ?_, fun g hg => absurd hg (Nat.not_lt_zero g), fun g hg => absurd hg (Nat.not_lt_zero g), ?_, fun k hk => ?_⟩, hH, ⟨Z _ _ (by omega) (by omega) (by omega) (by omega) (by omega) (by omega) (by omega) (by omega), fun i hi => absurd hi (Nat.not_lt_zero i)⟩, ⟨Z _ _ (by omega) (by omega) (by omega) (by omega) (by omega) (by omega) (by omega) (by omega), fun i hi => absurd hi (Nat.not_lt_zero i)⟩, ⟨Z _ _ (by omega) (by omega) (by omega) (by omega) (by omega) (by omega) (by omega) (by omega), fun i hi => absurd hi (Nat.not_lt_zero i), fun i hi => absurd hi (Nat.not_lt_zero i)⟩, ⟨Z _ _ (by omega) (by omega) (by omega) (by omega) (by omega) (by omega) (by omega) (by omega), fun i hi => absurd hi (Nat.not_lt_zero i), ?_⟩, ⟨Z _ _ (by omega) (by omega) (by omega) (by omega) (by omega) (by omega) (by omega) (by omega), Z _ _ (by omega) (by omega) (by omega) (by omega) (by omega) (by omega) (by omega) (by omega), Z _ _ (by omega) (by omega) (by omega) (by omega) (by omega) (by omega) (by omega) (by omega)⟩, fun k hk => Z _ _ (by omega) (by omega) (by omega) (by omega) (by omega) (by omega) (by omega) (by omega)⟩
  · rw [h _ _ (by omega)]
    unfold yp_M11
    rw [yp_P4_n (by omega) (by omega), yp_P4_n (by omega) (by omega), yp_up2_n _ _ (by omega), yp_up2_s]
    rfl
  · rw [h _ _ (by omega)]
    unfold yp_M11
    rw [yp_P4_n (by omega) (by omega)]
    unfold yp_P4
    rw [yp_up2_s]
    rfl
  · have hk : k < 5 := hk
    rw [h _ _ (by omega)]
    unfold yp_M11
    rw [yp_P4_n (by omega) (by omega)]
    exact yp_P4_v hk
  · rw [h _ _ (by omega)]
    unfold yp_M11
    rw [yp_P4_n (by omega) (by omega), yp_P4_n (by omega) (by omega), yp_up2_n _ _ (by omega), yp_up2_n _ _ (by omega), yp_up2_s]
    rfl
set_option maxHeartbeats 1000000 in
theorem yp_M12_n {a j : Nat} (h : ¬ (a = B + 517 ∧ (j = 8 ∨ j = 14 ∨ j = 15 ∨ j = 16))) : yp_M12 B m a j = m a j := by
  unfold yp_M12
  rw [yp_up2_n _ _ (by omega), yp_up2_n _ _ (by omega), yp_up2_n _ _ (by omega), yp_up2_n _ _ (by omega)]
set_option maxHeartbeats 1000000 in
theorem yp_pure_law : PureLaw := by
  intro B L xs hL
  have d1 : yp_M12 B (yp_M11 B yp_zM) (B + 517) 14 = yp_N 0 := by unfold yp_M12; rw [yp_up2_n _ _ (by omega), yp_up2_n _ _ (by omega), yp_up2_s]; rfl
  have d2 : yp_M12 B (yp_M11 B yp_zM) (B + 517) 15 = yp_N 0 := by unfold yp_M12; rw [yp_up2_n _ _ (by omega), yp_up2_s]; rfl
  have d3 : yp_M12 B (yp_M11 B yp_zM) (B + 517) 16 = yp_N 60 := by unfold yp_M12; rw [yp_up2_s]; rfl
  have d4 : yp_M12 B (yp_M11 B yp_zM) (B + 517) 8 = -yp_N 1 := by unfold yp_M12; rw [yp_up2_n _ _ (by omega), yp_up2_n _ _ (by omega), yp_up2_n _ _ (by omega), yp_up2_s]; rfl
  have Z : ∀ a j, B + 517 ≤ a → ¬ (a = B + 517 ∧ (j = 8 ∨ j = 14 ∨ j = 15 ∨ j = 16)) → yp_M12 B (yp_M11 B yp_zM) a j = yp_N 0 := fun a j h1 h2 => (yp_M12_n h2).trans (yp_M11_z (by omega) (by omega) (by omega) (by omega) (by omega) (by omega) (by omega))
  obtain ⟨m', e1, ⟨k1, k2, k3, k4, k5, k6, k7, k8⟩, k9, k10, k11'⟩ := yp_m_sets (B := B) (m := yp_M12 B (yp_M11 B yp_zM)) (d := yp_z00.2.2) ⟨d1, d2, d3, fun l hl => absurd hl (Nat.not_lt_zero l), fun g hg => absurd hg (Nat.not_lt_zero g)⟩ yp_z00J
  have hc : yp_RCc B m' yp_A0 := yp_init_c (fun a j h => (k11' a j (by omega) (by omega) (by omega) (by omega)).trans (yp_M12_n (by omega)))
  have yp_W : ∀ a j, B + 517 ≤ a → a ≠ B + 522 → a ≠ B + 523 → a ≠ B + 532 → ¬ (a = B + 517 ∧ (j = 8 ∨ j = 14 ∨ j = 15 ∨ j = 16 ∨ j = 17 ∨ j = 18 ∨ j = 19 ∨ j = 26 ∨ j = 42 ∨ j = 31 ∨ j = 49 ∨ j = 32)) → m' a j = yp_N 0 := fun a j h1 h2 h3 h4 h5 => (k11' a j (by omega) h2 h3 h4).trans (Z a j h1 (by omega))
  have hm : yp_RMm B m' yp_A0 := ⟨⟨k1, k2, k3, fun g hg => absurd hg (Nat.not_lt_zero g), fun g hg => absurd hg (Nat.not_lt_zero g), .inl ⟨k4, rfl, rfl⟩⟩, k10, ⟨k6, fun i hi => absurd hi (Nat.not_lt_zero i)⟩, ⟨k7, fun i hi => absurd hi (Nat.not_lt_zero i)⟩, ⟨k5, fun i hi => absurd hi (Nat.not_lt_zero i), fun i hi => absurd hi (Nat.not_lt_zero i)⟩, ⟨yp_W _ _ (by omega) (by omega) (by omega) (by omega) (by omega), fun i hi => absurd hi (Nat.not_lt_zero i), (k11' _ _ (by omega) (by omega) (by omega) (by omega)).trans d4⟩, ⟨k8, yp_W _ _ (by omega) (by omega) (by omega) (by omega) (by omega), yp_W _ _ (by omega) (by omega) (by omega) (by omega) (by omega)⟩⟩
  refine ⟨yp_CE1, yp_CE2, yp_M11 B yp_zM, m', 8000, yp_k11, yp_k12 e1, fun a j h => ?_, ?_⟩
  · rw [yp_lenE2] at h
    exact yp_W a j (by omega) (by omega) (by omega) (by omega) (by omega)
  · rw [yp_lenE1, yp_lenE2]
    exact yp_law_runs hc (yp_clINV yp_AZ yp_z00J) hm hL
end INIT

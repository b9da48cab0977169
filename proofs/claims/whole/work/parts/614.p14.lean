section HELP
variable {B : Nat} {mm m : Mem} {A : yp_St}
set_option maxHeartbeats 1000000 in
theorem yp_CA_e1 {f : Option ((Int32 ⊕ Nat) × Mem)} (hR : yp_RCc B mm A) (hI : yp_INV A) (h : f = some (.inr 1, up2 mm B 17 (yp_sC1 A + yp_N 1))) : yp_CA B f mm (.inr 1) (yp_ex1 A) := ⟨_, h, hR.e1 hI, fun a j ha => yp_up2_n _ _ (by omega)⟩
set_option maxHeartbeats 1000000 in
theorem yp_CA_e0 {f : Option ((Int32 ⊕ Nat) × Mem)} (hR : yp_RCc B mm A) (hI : yp_INV A) (h : f = some (.inr 0, up2 mm B 16 (yp_sC0 A + yp_N 1))) : yp_CA B f mm (.inr 0) (yp_ex0 A) := ⟨_, h, hR.e0 hI, fun a j ha => yp_up2_n _ _ (by omega)⟩
set_option maxHeartbeats 1000000 in
theorem yp_CA_v {f : Option ((Int32 ⊕ Nat) × Mem)} {v : Int32} {m1 : Mem} (hR : yp_RCc B mm A) (hI : yp_INV A) (h : f = some (.inl v, m1)) (hF : ∀ a j, yp_KC B a j ∨ B + 517 ≤ a → m1 a j = mm a j) : yp_CA B f mm (.inl v) A := ⟨_, h, hR.fr hI (fun a j k => hF a j (.inl k)), fun a j ha => hF a j (.inr ha)⟩
def yp_m0 (B : Nat) (m : Mem) : Mem := up2 m (B + 517) 0 (yp_N 0)
set_option maxHeartbeats 1000000 in
theorem yp_m0e (B : Nat) (m : Mem) : up2 m (B + 517) 0 (yp_N 0) = yp_m0 B m := rfl
set_option maxHeartbeats 1000000 in
theorem yp_m0t (B : Nat) (m : Mem) : yp_m0 B m (B + 517) 0 = yp_N 0 := yp_up2_s _ _ _ _
set_option maxHeartbeats 1000000 in
theorem yp_m0n {B : Nat} {m : Mem} {a j : Nat} (h : ¬ (a = B + 517 ∧ j = 0)) : yp_m0 B m a j = m a j := yp_up2_n _ _ (by omega)
set_option maxHeartbeats 1000000 in
theorem yp_m0R (h : yp_RMm B m A) : yp_RMm B (yp_m0 B m) A := h.fr (fun a j k => yp_m0n (by unfold yp_KM at k; omega))
set_option maxHeartbeats 1000000 in
theorem yp_MA_e {f : Option (Int32 × Mem)} {w c v : Int32} {k : Nat} (hk : k < 2) (hR : yp_RMm B m A) (h : f = some (w, up2 (up2 (yp_m0 B m) (B + 517) 0 c) (B + 518) k (yp_m0 B m (B + 518) k + yp_N 1))) (hc : c ≠ yp_N 0) : yp_MA B f m c v (if k = 0 then yp_ex0 A else yp_ex1 A) := by
  refine ⟨_, w, h, ?_, fun e => absurd e hc, (yp_m0R hR).ex c _ k hk rfl, fun a j ha => ?_⟩
  · rw [yp_up2_n _ _ (by omega), yp_up2_s]
  · rw [yp_up2_n _ _ (by omega), yp_up2_n _ _ (by omega), yp_m0n (by omega)]
set_option maxHeartbeats 1000000 in
theorem yp_MA_v {f : Option (Int32 × Mem)} {v : Int32} {m2 : Mem} (hR : yp_RMm B m A) (h : f = some (v, m2)) (ht : m2 (B + 517) 0 = yp_N 0) (hF : ∀ a j, yp_KM B a j ∨ a < B + 517 ∨ B + 542 ≤ a → m2 a j = yp_m0 B m a j) : yp_MA B f m (yp_N 0) v A := by
  refine ⟨m2, v, h, ht, fun _ => rfl, (yp_m0R hR).fr (fun a j k => hF a j (.inl k)), fun a j ha => ?_⟩
  rw [hF a j (.inr ha), yp_m0n (by omega)]
set_option maxHeartbeats 1000000 in
theorem yp_take_MA (hR : yp_RMm B m A) : ∃ m2, fX12_take (yp_SH B) (B + 517) (yp_m0 B m) = some m2 ∧ yp_HM m2 (B + 533) (yp_sH A) ∧ yp_CLm B m2 (yp_sQ A) ∧ yp_RMm B m2 A ∧ m2 (B + 517) 0 = yp_N 0 ∧ yp_Fr (yp_FS B) (yp_m0 B m) m2 := by
  obtain ⟨m2, h1, h2, h3⟩ := yp_m_take (yp_m0R hR).2.1
  refine ⟨m2, h1, h2, (yp_m0R hR).1.fr (fun a j h => h3 a j (by unfold yp_FS; omega)), (yp_m0R hR).fr (fun a j h => h3 a j (by unfold yp_KM at h; unfold yp_FS; omega)), ?_, h3⟩
  rw [h3 _ _ (by unfold yp_FS; omega), yp_m0t]
set_option maxHeartbeats 1000000 in
theorem yp_FS_ok {m2 m : Mem} (h : yp_Fr (yp_FS B) m m2) : ∀ a j, yp_KM B a j ∨ a < B + 517 ∨ B + 542 ≤ a → m2 a j = m a j := fun a j k => h a j (by unfold yp_KM at k; unfold yp_FS; omega)
set_option maxHeartbeats 1000000 in
theorem yp_n1 : (yp_N 1 : Int32) ≠ yp_N 0 := by decide
set_option maxHeartbeats 1000000 in
theorem yp_n2 : (yp_N 2 : Int32) ≠ yp_N 0 := by decide
end HELP

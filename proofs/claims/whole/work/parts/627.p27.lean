section KEEP
variable {Q : yp_EnvT} {H : Nat → Int32}
set_option maxHeartbeats 1000000 in
theorem yp_bnd_r {w : Nat} (hw : 1 ≤ w) (hw2 : w ≤ 99) (v : Int32) : 0 ≤ (yp_bnd w v).toInt ∧ (yp_bnd w v).toInt < w := by
  unfold yp_bnd
  by_cases h : yp_N 0 ≤ v
  · rw [if_pos h]
    rw [yp_leTi, yp_ti0] at h
    by_cases h2 : yp_N w ≤ v
    · rw [if_pos h2, yp_tiN (by omega)]; omega
    · rw [if_neg h2]
      rw [yp_leTi, yp_tiN (by omega)] at h2
      omega
  · rw [if_neg h, yp_ti0]; omega
set_option maxHeartbeats 1000000 in
theorem yp_prt_w (f g : Nat) {k : Nat} (hk : k < 42) (hf : f < 6) : yp_prt Q H f g k = if f * 7 ≤ k ∧ k < f * 7 + 7 then (if H k ≤ yp_N 0 then H k else yp_N 0) else H k := by
  unfold yp_prt yp_up1 yp_prP
  rw [if_neg (by omega)]
  by_cases e : f * 7 ≤ k ∧ k < f * 7 + 7
  · rw [if_pos e, if_pos e]
  · rw [if_neg e, if_neg e, if_neg (by omega), if_neg (by omega)]
set_option maxHeartbeats 1000000 in
theorem yp_prt_l (f g : Nat) {k : Nat} (hk : k < 42) (hf : f < 6) : yp_prt Q H f g (42 + k) = if f * 7 ≤ k ∧ k < f * 7 + 7 then (if H k ≤ yp_N 0 then H (42 + k) else H (42 + k) + H k) else H (42 + k) := by
  unfold yp_prt yp_up1 yp_prP
  rw [if_neg (by omega), if_neg (by omega), Nat.add_sub_cancel_left]
  by_cases e : f * 7 ≤ k ∧ k < f * 7 + 7
  · rw [if_pos (by omega), if_pos e]
  · rw [if_neg (by omega), if_neg e, if_neg (by omega)]
set_option maxHeartbeats 1000000 in
theorem yp_prt_a (f g : Nat) {k : Nat} (hk : k < 42) (hf : f < 6) : yp_prt Q H f g (84 + k) = if f * 7 ≤ k ∧ k < f * 7 + 7 then (if H k ≤ yp_N 0 then H (84 + k) else yp_tbH Q H f g (k - f * 7)) else H (84 + k) := by
  unfold yp_prt yp_up1 yp_prP
  rw [if_neg (by omega), if_neg (by omega), if_neg (by omega), Nat.add_sub_cancel_left]
  by_cases e : f * 7 ≤ k ∧ k < f * 7 + 7
  · rw [if_pos (by omega), if_pos e]
  · rw [if_neg (by omega), if_neg e]
set_option maxHeartbeats 1000000 in
theorem yp_prt_t (f g : Nat) {k : Nat} (hk : k < 42) (hf : f < 6) : yp_prt Q H f g (126 + k) = H (126 + k) := by
  unfold yp_prt yp_up1 yp_prP
  rw [if_neg (by omega), if_neg (by omega), if_neg (by omega), if_neg (by omega)]
set_option maxHeartbeats 1000000 in
theorem yp_HI.of {H' : Nat → Int32} (hH : yp_HI Q H) (h1 : ∀ k, k < 42 → 0 ≤ (H' k).toInt ∧ 0 ≤ (H' (42 + k)).toInt ∧ 0 ≤ (H' (126 + k)).toInt ∧ (H' k).toInt + (H' (42 + k)).toInt + (H' (126 + k)).toInt = (H k).toInt + (H (42 + k)).toInt + (H (126 + k)).toInt) (h2 : ∀ k, k < 42 → 0 ≤ (H' (84 + k)).toInt ∧ (H' (84 + k)).toInt < yp_qw Q) : yp_HI Q H' := by
  refine ⟨fun k hk => ⟨(h1 k hk).1, (h1 k hk).2.1, (h1 k hk).2.2.1, h2 k hk⟩, fun k hk hq => ?_, ?_⟩
  · have e := h1 k hk
    have z := hH.2.1 k hk hq
    rw [z.1, z.2.1, z.2.2, yp_ti0] at e
    refine ⟨?_, ?_, ?_⟩
    · rw [yp_eqTi, yp_ti0]; omega
    · rw [yp_eqTi, yp_ti0]; omega
    · rw [yp_eqTi, yp_ti0]; omega
  · rw [yp_zs_congr (fun k hk => (h1 k hk).2.2.2)]
    exact hH.2.2
set_option maxHeartbeats 1000000 in
theorem yp_HI.prt (hE : yp_EV Q) (hH : yp_HI Q H) (f g : Nat) (hf : f < 6) : yp_HI Q (yp_prt Q H f g) := by
  refine hH.of (fun k hk => ?_) (fun k hk => ?_)
  · rw [yp_prt_w f g hk hf, yp_prt_l f g hk hf, yp_prt_t f g hk hf]
    have h1 := hH.1 k hk
    have h2 := hH.le k hk
    by_cases e : f * 7 ≤ k ∧ k < f * 7 + 7
    · rw [if_pos e, if_pos e]
      by_cases e2 : H k ≤ yp_N 0
      · rw [if_pos e2, if_pos e2]
        omega
      · rw [if_neg e2, if_neg e2, yp_ti0, yp_ti_add (by omega) (by omega)]
        omega
    · rw [if_neg e, if_neg e]
      omega
  · rw [yp_prt_a f g hk hf]
    have h1 := (hH.1 k hk).2.2.2
    split
    · split
      · exact h1
      · exact yp_bnd_r (by have := hE.2.2.1; omega) hE.2.2.2.1 _
    · exact h1
set_option maxHeartbeats 1000000 in
theorem yp_HI.jnd (hH : yp_HI Q H) (f g : Nat) (hf : f < 6) : yp_HI Q (yp_jnd Q H f g) := by
  have e0 : ∀ k, k < 42 → yp_jnd Q H f g k = if f * 7 ≤ k ∧ k < f * 7 + 7 then (if yp_bt (yp_jb Q H f g) (k - f * 7) = yp_N 1 then H k + H (42 + k) else H k) else H k := fun k hk => by
    unfold yp_jnd yp_jnP
    by_cases e : f * 7 ≤ k ∧ k < f * 7 + 7
    · rw [if_pos e, if_pos e]
    · rw [if_neg e, if_neg e, if_neg (by omega)]
  have e1 : ∀ k, k < 42 → yp_jnd Q H f g (42 + k) = if f * 7 ≤ k ∧ k < f * 7 + 7 then (if yp_bt (yp_jb Q H f g) (k - f * 7) = yp_N 1 then yp_N 0 else H (42 + k)) else H (42 + k) := fun k hk => by
    unfold yp_jnd yp_jnP
    rw [if_neg (by omega)]
    by_cases e : f * 7 ≤ k ∧ k < f * 7 + 7
    · rw [if_pos (by omega), if_pos e, show 42 + k - 42 - f * 7 = k - f * 7 by omega]
    · rw [if_neg (by omega), if_neg e]
  have e2 : ∀ k, 84 ≤ k → yp_jnd Q H f g k = H k := fun k hk => by
    unfold yp_jnd yp_jnP
    rw [if_neg (by omega), if_neg (by omega)]
  refine hH.of (fun k hk => ?_) (fun k hk => ?_)
  · rw [e0 k hk, e1 k hk, e2 (126 + k) (by omega)]
    have h1 := hH.1 k hk
    have h2 := hH.le k hk
    by_cases e : f * 7 ≤ k ∧ k < f * 7 + 7
    · rw [if_pos e, if_pos e]
      by_cases e2 : yp_bt (yp_jb Q H f g) (k - f * 7) = yp_N 1
      · rw [if_pos e2, if_pos e2, yp_ti0, yp_ti_add (by omega) (by omega)]
        omega
      · rw [if_neg e2, if_neg e2]
        omega
    · rw [if_neg e, if_neg e]
      omega
  · rw [e2 (84 + k) (by omega)]
    exact (hH.1 k hk).2.2.2
set_option maxHeartbeats 1000000 in
theorem yp_up1_s (H : Nat → Int32) (k : Nat) (v : Int32) : yp_up1 H k v k = v := if_pos rfl
set_option maxHeartbeats 1000000 in
theorem yp_up1_n (H : Nat → Int32) {k j : Nat} (v : Int32) (h : j ≠ k) : yp_up1 H k v j = H j := if_neg h
set_option maxHeartbeats 1000000 in
theorem yp_HI.take (hH : yp_HI Q H) (c : Nat) (hc : c < 42) (n : Int32) (h0 : 0 ≤ n.toInt) (hn : n ≤ H c) : yp_HI Q (yp_mov H c (126 + c) n) := by
  rw [yp_leTi] at hn
  have yp_b1 := hH.1 c hc
  have b2 := hH.le c hc
  refine hH.of (fun k hk => ?_) (fun k hk => ?_)
  · have h1 := hH.1 k hk
    unfold yp_mov
    rw [yp_up1_n _ _ (show k ≠ 126 + c by omega), yp_up1_n _ _ (show 42 + k ≠ 126 + c by omega), yp_up1_n _ _ (show 42 + k ≠ c by omega)]
    by_cases e : k = c
    · subst e
      rw [yp_up1_s, yp_up1_s, yp_ti_sub (by omega) (by omega), yp_ti_add (by omega) (by omega)]
      omega
    · rw [yp_up1_n _ _ e, yp_up1_n _ _ (show 126 + k ≠ 126 + c by omega), yp_up1_n _ _ (show 126 + k ≠ c by omega)]
      omega
  · unfold yp_mov
    rw [yp_up1_n _ _ (by omega), yp_up1_n _ _ (by omega)]
    exact (hH.1 k hk).2.2.2
set_option maxHeartbeats 1000000 in
theorem yp_HI.give (hH : yp_HI Q H) (c : Nat) (hc : c < 42) (n : Int32) (h0 : 0 ≤ n.toInt) (hn : n ≤ H (126 + c)) : yp_HI Q (yp_mov H (126 + c) c n) := by
  rw [yp_leTi] at hn
  have yp_b1 := hH.1 c hc
  have b2 := hH.le c hc
  refine hH.of (fun k hk => ?_) (fun k hk => ?_)
  · have h1 := hH.1 k hk
    unfold yp_mov
    rw [yp_up1_n _ _ (show 42 + k ≠ c by omega), yp_up1_n _ _ (show 42 + k ≠ 126 + c by omega), yp_up1_n _ _ (show 126 + k ≠ c by omega)]
    by_cases e : k = c
    · subst e
      rw [yp_up1_s, yp_up1_s, yp_ti_sub (by omega) (by omega), yp_ti_add (by omega) (by omega)]
      omega
    · rw [yp_up1_n _ _ e, yp_up1_n _ _ (show k ≠ 126 + c by omega), yp_up1_n _ _ (show 126 + k ≠ 126 + c by omega)]
      omega
  · unfold yp_mov
    rw [yp_up1_n _ _ (by omega), yp_up1_n _ _ (by omega)]
    exact (hH.1 k hk).2.2.2
set_option maxHeartbeats 1000000 in
theorem yp_HI.swp (hH : yp_HI Q H) (c d : Nat) (hc : c < yp_qf Q * 7) (hd : d < yp_qf Q * 7) (hq : yp_qf Q ≤ 6) (hne : ¬ H c = H d) : yp_HI Q (yp_swp H c d) := by
  have hcd : c ≠ d := fun e => hne (by rw [e])
  have o : ∀ k, k ≠ c → k ≠ d → yp_swp H c d k = H k := fun k h1 h2 => by
    unfold yp_swp
    rw [yp_up1_n _ _ h2, yp_up1_n _ _ h1]
  have oc : yp_swp H c d c = H d := by unfold yp_swp; rw [yp_up1_n _ _ hcd, yp_up1_s]
  have od : yp_swp H c d d = H c := by unfold yp_swp; rw [yp_up1_s]
  have bc := hH.1 c (by omega)
  have bd := hH.1 d (by omega)
  refine ⟨fun k hk => ?_, fun k hk hq2 => ?_, ?_⟩
  · have h1 := hH.1 k hk
    rw [o (42 + k) (by omega) (by omega), o (126 + k) (by omega) (by omega), o (84 + k) (by omega) (by omega)]
    refine ⟨?_, h1.2⟩
    by_cases e1 : k = c
    · rw [e1, oc]; exact bd.1
    · by_cases e2 : k = d
      · rw [e2, od]; exact bc.1
      · rw [o k e1 e2]; exact h1.1
  · have z := hH.2.1 k hk hq2
    rw [o (42 + k) (by omega) (by omega), o (126 + k) (by omega) (by omega), o k (by omega) (by omega)]
    exact z
  · have s1 := yp_zs_up (v := fun k => (H k).toInt + (H (42 + k)).toInt + (H (126 + k)).toInt) (w := fun k => (yp_up1 H c (H d) k).toInt + (H (42 + k)).toInt + (H (126 + k)).toInt) (n := 42) (c := c) (by omega) (fun k hk he => by
      show (yp_up1 H c (H d) k).toInt + _ + _ = _
      rw [yp_up1_n _ _ he])
    have s2 := yp_zs_up (v := fun k => (yp_up1 H c (H d) k).toInt + (H (42 + k)).toInt + (H (126 + k)).toInt) (w := fun k => (yp_swp H c d k).toInt + (yp_swp H c d (42 + k)).toInt + (yp_swp H c d (126 + k)).toInt) (n := 42) (c := d) (by omega) (fun k hk he => by
      show (yp_swp H c d k).toInt + (yp_swp H c d (42 + k)).toInt + (yp_swp H c d (126 + k)).toInt = (yp_up1 H c (H d) k).toInt + (H (42 + k)).toInt + (H (126 + k)).toInt
      rw [o (42 + k) (by omega) (by omega), o (126 + k) (by omega) (by omega)]
      unfold yp_swp
      rw [yp_up1_n _ _ he])
    have t1 : (yp_up1 H c (H d) c).toInt = (H d).toInt := by rw [yp_up1_s]
    have t2 : (yp_up1 H c (H d) d).toInt = (H d).toInt := by rw [yp_up1_n _ _ (fun e => hcd e.symm)]
    have t3 : (yp_swp H c d d).toInt = (H c).toInt := by rw [od]
    have t4 : (yp_swp H c d (42 + d)).toInt = (H (42 + d)).toInt := by rw [o _ (by omega) (by omega)]
    have t5 : (yp_swp H c d (126 + d)).toInt = (H (126 + d)).toInt := by rw [o _ (by omega) (by omega)]
    have h3 := hH.2.2
    rw [s2, s1, t1, t2, t3, t4, t5]
    omega
end KEEP
set_option maxHeartbeats 1000000 in
theorem yp_ushr_ashr (x : Int32) (s w : Nat) (hs : s = 0 ∨ s = 8 ∨ s = 16 ∨ s = 24) (hw : s + w ≤ 32) : uShr x (yp_N s) &&& yp_N (2 ^ w - 1) = (x >>> (yp_N s &&& yp_N 31)) &&& yp_N (2 ^ w - 1) := by
  apply Int32.toBitVec_inj.mp
  have h1 : (uShr x (yp_N s)).toBitVec = x.toBitVec >>> s := by
    rcases hs with rfl | rfl | rfl | rfl <;> rfl
  have h2 : (x >>> (yp_N s &&& yp_N 31)).toBitVec = x.toBitVec.sshiftRight s := by
    rcases hs with rfl | rfl | rfl | rfl <;> rfl
  rw [Int32.toBitVec_and, Int32.toBitVec_and, h1, h2]
  have h3 : (yp_N (2 ^ w - 1)).toBitVec = BitVec.ofNat 32 (2 ^ w - 1) := rfl
  rw [h3]
  apply BitVec.eq_of_getLsbD_eq
  intro i hi
  rw [BitVec.getLsbD_and, BitVec.getLsbD_and, BitVec.getLsbD_ofNat, Nat.testBit_two_pow_sub_one]
  by_cases h : i < w
  · rw [BitVec.getLsbD_ushiftRight, BitVec.getLsbD_sshiftRight, if_pos (by omega)]
    have h9 : (decide (32 ≤ i)) = false := by simp; omega
    rw [h9]
    rfl
  · simp [h]
set_option maxHeartbeats 1000000 in
theorem yp_mask_r (x : Int32) (w : Nat) (hw : w ≤ 30) : ∃ k, k < 2 ^ w ∧ x &&& yp_N (2 ^ w - 1) = yp_N k := by
  have hp : 2 ^ w ≤ 2 ^ 30 := Nat.pow_le_pow_right (by omega) hw
  have hp1 : 1 ≤ 2 ^ w := Nat.pow_pos (by omega)
  have e30 : (2 : Nat) ^ 30 = 1073741824 := by decide
  refine ⟨(x &&& yp_N (2 ^ w - 1)).toBitVec.toNat, ?_, ?_⟩
  · have h1 : (x &&& yp_N (2 ^ w - 1)).toBitVec = x.toBitVec &&& BitVec.ofNat 32 (2 ^ w - 1) := rfl
    rw [h1, BitVec.toNat_and, BitVec.toNat_ofNat, Nat.mod_eq_of_lt (by omega)]
    have := Nat.and_le_right (n := x.toBitVec.toNat) (m := 2 ^ w - 1)
    omega
  · apply Int32.toBitVec_inj.mp
    show _ = BitVec.ofNat 32 _
    rw [BitVec.ofNat_toNat, BitVec.setWidth_eq]

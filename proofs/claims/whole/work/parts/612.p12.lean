set_option maxHeartbeats 1000000 in
theorem yp_zs_congr {v w : Nat → Int} {n : Nat} (h : ∀ k, k < n → v k = w k) : yp_zs v n = yp_zs w n := by
  induction n with
  | zero => rfl
  | succ n ih => unfold yp_zs; rw [ih (fun k hk => h k (by omega)), h n (by omega)]
set_option maxHeartbeats 1000000 in
theorem yp_zs_le {v w : Nat → Int} {n : Nat} (h : ∀ k, k < n → v k ≤ w k) : yp_zs v n ≤ yp_zs w n := by
  induction n with
  | zero => exact Int.le_refl _
  | succ n ih =>
    unfold yp_zs
    have h1 := ih (fun k hk => h k (by omega))
    have h2 := h n (by omega)
    omega
set_option maxHeartbeats 1000000 in
theorem yp_zs_nn {v : Nat → Int} {n : Nat} (h : ∀ k, k < n → 0 ≤ v k) : 0 ≤ yp_zs v n := by
  induction n with
  | zero => exact Int.le_refl _
  | succ n ih =>
    unfold yp_zs
    have h1 := ih (fun k hk => h k (by omega))
    have h2 := h n (by omega)
    omega
set_option maxHeartbeats 1000000 in
theorem yp_zs_add (v : Nat → Int) (a b : Nat) : yp_zs v (a + b) = yp_zs v a + yp_zs (fun i => v (a + i)) b := by
  induction b with
  | zero => simp [yp_zs]
  | succ b ih =>
    show yp_zs v (a + b) + v (a + b) = _
    rw [ih]
    show _ = yp_zs v a + (yp_zs (fun i => v (a + i)) b + v (a + b))
    omega
set_option maxHeartbeats 1000000 in
theorem yp_zs_block {v : Nat → Int} {n : Nat} (h : ∀ k, k < n → 0 ≤ v k) (p m : Nat) (hp : p + m ≤ n) : yp_zs (fun i => v (p + i)) m ≤ yp_zs v n := by
  obtain ⟨r, rfl⟩ : ∃ r, n = p + m + r := ⟨n - (p + m), by omega⟩
  rw [yp_zs_add, yp_zs_add]
  have h1 := yp_zs_nn (v := v) (n := p) (fun k hk => h k (by omega))
  have h2 := yp_zs_nn (v := fun i => v (p + m + i)) (n := r) (fun k hk => h _ (by omega))
  omega
set_option maxHeartbeats 1000000 in
theorem yp_zs_one {v : Nat → Int} {n : Nat} (h : ∀ k, k < n → 0 ≤ v k) (k : Nat) (hk : k < n) : v k ≤ yp_zs v n := by
  have h1 := yp_zs_block h k 1 (by omega)
  have h2 : yp_zs (fun i => v (k + i)) 1 = v k := by simp [yp_zs]
  omega
set_option maxHeartbeats 1000000 in
theorem yp_zs_seven (v : Nat → Int) (n : Nat) : yp_zs (fun f => yp_zs (fun i => v (f * 7 + i)) 7) n = yp_zs v (n * 7) := by
  induction n with
  | zero => rfl
  | succ n ih =>
    show yp_zs (fun f => yp_zs (fun i => v (f * 7 + i)) 7) n + yp_zs (fun i => v (n * 7 + i)) 7 = _
    rw [ih, show (n + 1) * 7 = n * 7 + 7 by omega, yp_zs_add]
set_option maxHeartbeats 1000000 in
theorem yp_zs_up {v w : Nat → Int} {n c : Nat} (hc : c < n) (h : ∀ k, k < n → k ≠ c → w k = v k) : yp_zs w n = yp_zs v n + (w c - v c) := by
  induction n with
  | zero => omega
  | succ n ih =>
    unfold yp_zs
    by_cases e : c = n
    · subst e
      rw [yp_zs_congr (fun k hk => h k (by omega) (by omega))]
      omega
    · rw [ih (by omega) (fun k hk => h k (by omega)), h n (by omega) (fun e2 => e e2.symm)]
      omega
set_option maxHeartbeats 1000000 in
theorem yp_ti_add {a b : Int32} (h0 : -2147483648 ≤ a.toInt + b.toInt) (h1 : a.toInt + b.toInt ≤ 2147483647) : (a + b).toInt = a.toInt + b.toInt := by
  rw [Int32.toInt_add]
  exact Int.bmod_eq_of_le (by omega) (by omega)
set_option maxHeartbeats 1000000 in
theorem yp_ti_sub {a b : Int32} (h0 : -2147483648 ≤ a.toInt - b.toInt) (h1 : a.toInt - b.toInt ≤ 2147483647) : (a - b).toInt = a.toInt - b.toInt := by
  rw [Int32.toInt_sub]
  exact Int.bmod_eq_of_le (by omega) (by omega)
set_option maxHeartbeats 1000000 in
theorem yp_ti0 : (yp_N 0).toInt = 0 := rfl
set_option maxHeartbeats 1000000 in
theorem yp_ti1 : (yp_N 1).toInt = 1 := rfl
set_option maxHeartbeats 1000000 in
theorem yp_sm_s (v : Nat → Int32) (n : Nat) : yp_sm v (n + 1) = yp_sm v n + v n := rfl
set_option maxHeartbeats 1000000 in
theorem yp_sm_ti {v : Nat → Int32} {n : Nat} (h : ∀ k, k < n → 0 ≤ (v k).toInt) (hb : yp_zs (fun k => (v k).toInt) n ≤ 2147483647) : (yp_sm v n).toInt = yp_zs (fun k => (v k).toInt) n := by
  induction n with
  | zero => rfl
  | succ n ih =>
    have h1 : 0 ≤ yp_zs (fun k => (v k).toInt) n := yp_zs_nn (fun k hk => h k (by omega))
    have h2 := h n (by omega)
    unfold yp_zs at hb
    have h3 := ih (fun k hk => h k (by omega)) (by omega)
    rw [yp_sm_s, yp_ti_add (by omega) (by omega), h3]
    rfl
set_option maxHeartbeats 1000000 in
theorem yp_sm_tail {v : Nat → Int32} {n m : Nat} (hnm : n ≤ m) (h : ∀ k, n ≤ k → k < m → v k = yp_N 0) : yp_sm v m = yp_sm v n := by
  induction m with
  | zero =>
    have : n = 0 := by omega
    subst this; rfl
  | succ m ih =>
    by_cases e : n = m + 1
    · subst e; rfl
    · rw [yp_sm_s, h m (by omega) (by omega), ih (by omega) (fun k h1 h2 => h k h1 (by omega))]
      exact Int32.add_zero _
set_option maxHeartbeats 1000000 in
theorem yp_eqTi {a b : Int32} : a = b ↔ a.toInt = b.toInt := Int32.toInt_inj.symm
set_option maxHeartbeats 1000000 in
theorem yp_leTi {a b : Int32} : a ≤ b ↔ a.toInt ≤ b.toInt := Int32.le_iff_toInt_le
set_option maxHeartbeats 1000000 in
theorem yp_ltTi {a b : Int32} : a < b ↔ a.toInt < b.toInt := Int32.lt_iff_toInt_lt
set_option maxHeartbeats 1000000 in
theorem yp_mxTi (a b : Int32) : (mxI a b).toInt = if a.toInt < b.toInt then b.toInt else a.toInt := by
  unfold mxI
  simp only [yp_ltTi]
  split <;> rfl
set_option maxHeartbeats 1000000 in
theorem yp_mnTi (a b : Int32) : (mnI a b).toInt = if b.toInt < a.toInt then b.toInt else a.toInt := by
  unfold mnI
  simp only [yp_ltTi]
  split <;> rfl
set_option maxHeartbeats 1000000 in
theorem yp_fo_s {S : Type} (g : Nat → S → S) (n : Nat) (s : S) : yp_fo g (n + 1) s = g n (yp_fo g n s) := rfl
set_option maxHeartbeats 1000000 in
theorem yp_fo_0 {S : Type} (g : Nat → S → S) (s : S) : yp_fo g 0 s = s := rfl
section BND
variable {Q : yp_EnvT} {H : Nat → Int32}
set_option maxHeartbeats 1000000 in
theorem yp_HI.z (h : yp_HI Q H) : (∀ k, k < 42 → 0 ≤ (fun k => (H k).toInt + (H (42 + k)).toInt + (H (126 + k)).toInt) k) := fun k hk => by
  have := h.1 k hk
  show 0 ≤ (H k).toInt + (H (42 + k)).toInt + (H (126 + k)).toInt
  omega
set_option maxHeartbeats 1000000 in
theorem yp_HI.le (h : yp_HI Q H) (k : Nat) (hk : k < 42) : (H k).toInt + (H (42 + k)).toInt + (H (126 + k)).toInt ≤ 1680 := Int.le_trans (yp_zs_one h.z k hk) h.2.2
set_option maxHeartbeats 1000000 in
theorem yp_HI.row (h : yp_HI Q H) (o : Nat) (ho : o = 0 ∨ o = 42 ∨ o = 126) : yp_zs (fun k => (H (o + k)).toInt) 42 ≤ 1680 := by
  refine Int.le_trans (yp_zs_le (fun k hk => ?_)) h.2.2
  have := h.1 k hk
  rcases ho with rfl | rfl | rfl
  · rw [Nat.zero_add]; omega
  · omega
  · omega
set_option maxHeartbeats 1000000 in
theorem yp_HI.nn (h : yp_HI Q H) (o : Nat) (ho : o = 0 ∨ o = 42 ∨ o = 126) (k : Nat) (hk : k < 42) : 0 ≤ (H (o + k)).toInt := by
  have := h.1 k hk
  rcases ho with rfl | rfl | rfl
  · rw [Nat.zero_add]; omega
  · omega
  · omega
set_option maxHeartbeats 1000000 in
theorem yp_HI.sm (h : yp_HI Q H) (o : Nat) (ho : o = 0 ∨ o = 42 ∨ o = 126) (p m : Nat) (hp : p + m ≤ 42) : (yp_sm (fun i => H (o + (p + i))) m).toInt = yp_zs (fun i => (H (o + (p + i))).toInt) m ∧ 0 ≤ yp_zs (fun i => (H (o + (p + i))).toInt) m ∧ yp_zs (fun i => (H (o + (p + i))).toInt) m ≤ 1680 := by
  have h1 := yp_zs_block (v := fun k => (H (o + k)).toInt) (n := 42) (fun k hk => h.nn o ho k hk) p m hp
  have h2 := h.row o ho
  have h3 : 0 ≤ yp_zs (fun i => (H (o + (p + i))).toInt) m := yp_zs_nn (fun k hk => h.nn o ho _ (by omega))
  refine ⟨yp_sm_ti (fun k hk => h.nn o ho _ (by omega)) ?_, h3, ?_⟩
  · have : yp_zs (fun k => (H (o + (p + k))).toInt) m ≤ 1680 := Int.le_trans h1 h2
    omega
  · exact Int.le_trans h1 h2
set_option maxHeartbeats 1000000 in
theorem yp_HI.W (h : yp_HI Q H) (f : Nat) (hf : f < 6) : (yp_W H f).toInt = yp_zs (fun i => (H (f * 7 + i)).toInt) 7 ∧ 0 ≤ (yp_W H f).toInt ∧ (yp_W H f).toInt ≤ 1680 := by
  have h1 := h.sm 0 (.inl rfl) (f * 7) 7 (by omega)
  simp only [Nat.zero_add] at h1
  unfold yp_W
  rw [h1.1]
  exact ⟨rfl, h1.2⟩
set_option maxHeartbeats 1000000 in
theorem yp_bt_mul (s : Int32) (f : Nat) (v : Int32) : yp_bt s f * v = if yp_bt s f = yp_N 1 then v else yp_N 0 := by
  rcases yp_bt01 s f with h | h
  · rw [h, if_neg (by decide)]; exact Int32.zero_mul
  · rw [h, if_pos rfl]; exact Int32.one_mul _
set_option maxHeartbeats 1000000 in
theorem yp_HI.col (h : yp_HI Q H) (s : Int32) (c : Nat) (hc : c < 7) (n : Nat) (hn : n ≤ 6) : (yp_col H s c n).toInt = yp_zs (fun f => (yp_bt s f * H (f * 7 + c)).toInt) n ∧ 0 ≤ (yp_col H s c n).toInt ∧ (yp_col H s c n).toInt ≤ 1680 := by
  have e1 : ∀ f, f < n → 0 ≤ (yp_bt s f * H (f * 7 + c)).toInt ∧ (yp_bt s f * H (f * 7 + c)).toInt ≤ (H (f * 7 + c)).toInt := fun f hf => by
    have := h.1 (f * 7 + c) (by omega)
    rw [yp_bt_mul]
    split
    · omega
    · rw [yp_ti0]; omega
  have e2 : yp_zs (fun f => (yp_bt s f * H (f * 7 + c)).toInt) n ≤ 1680 := by
    refine Int.le_trans (yp_zs_le (fun f hf => ?_)) (Int.le_trans (Int.le_of_eq (yp_zs_seven (fun k => (H k).toInt) n)) ?_)
    · refine Int.le_trans (e1 f hf).2 ?_
      exact yp_zs_one (v := fun i => (H (f * 7 + i)).toInt) (n := 7) (fun k hk => (h.1 (f * 7 + k) (by omega)).1) c hc
    · have h1 := yp_zs_block (v := fun k => (H (0 + k)).toInt) (n := 42) (fun k hk => h.nn 0 (.inl rfl) k hk) 0 (n * 7) (by omega)
      have h2 := h.row 0 (.inl rfl)
      simp only [Nat.zero_add] at h1 h2
      exact Int.le_trans h1 h2
  have e3 : 0 ≤ yp_zs (fun f => (yp_bt s f * H (f * 7 + c)).toInt) n := yp_zs_nn (fun f hf => (e1 f hf).1)
  have e4 : (yp_col H s c n).toInt = yp_zs (fun f => (yp_bt s f * H (f * 7 + c)).toInt) n := yp_sm_ti (fun f hf => (e1 f hf).1) (by omega)
  exact ⟨e4, by omega, by omega⟩
set_option maxHeartbeats 1000000 in
theorem yp_HI.nn0 (h : yp_HI Q H) : ∀ k, k < 42 → yp_N 0 ≤ H k := fun k hk => by
  rw [yp_leTi, yp_ti0]
  exact (h.1 k hk).1
set_option maxHeartbeats 1000000 in
theorem yp_HI.nn1 (h : yp_HI Q H) : ∀ k, k < 42 → yp_N 0 ≤ H (42 + k) := fun k hk => by
  rw [yp_leTi, yp_ti0]
  exact (h.1 k hk).2.1
end BND
set_option maxHeartbeats 1000000 in
theorem yp_btN (m f : Nat) (hm : m < 256) (hf : f < 8) : yp_bt (yp_N m) f = yp_N (m / 2 ^ f % 2) := by
  have h : ∀ m : Fin 256, ∀ f : Fin 8, yp_bt (yp_N m.val) f.val = yp_N (m.val / 2 ^ f.val % 2) := by decide +kernel
  exact h ⟨m, hm⟩ ⟨f, hf⟩
set_option maxHeartbeats 1000000 in
theorem yp_b1N (f : Nat) (hf : f < 8) : yp_b1 f = yp_N (2 ^ f) := by
  have h : ∀ f : Fin 8, yp_b1 f.val = yp_N (2 ^ f.val) := by decide +kernel
  exact h ⟨f, hf⟩
set_option maxHeartbeats 1000000 in
theorem yp_bt_hi {m f n : Nat} (hn : n ≤ f) (hf : f < 8) (hm : m < 2 ^ n) : yp_bt (yp_N m) f = yp_N 0 := by
  have h1 : 2 ^ n ≤ 2 ^ f := Nat.pow_le_pow_right (by omega) hn
  have h2 : 2 ^ f < 2 ^ 8 := Nat.pow_lt_pow_right (by omega) hf
  rw [yp_btN m f (by omega) hf, Nat.div_eq_of_lt (by omega)]
set_option maxHeartbeats 1000000 in
theorem yp_bt_b1 (k f : Nat) (hk : k < 8) (hf : f < 8) : yp_bt (yp_b1 k) f = if f = k then yp_N 1 else yp_N 0 := by
  have h : ∀ k f : Fin 8, yp_bt (yp_b1 k.val) f.val = if f.val = k.val then yp_N 1 else yp_N 0 := by decide +kernel
  exact h ⟨k, hk⟩ ⟨f, hf⟩
set_option maxHeartbeats 1000000 in
theorem yp_col_tail {H : Nat → Int32} {m n c : Nat} (hm : m < 2 ^ n) (hn : n ≤ 6) : yp_col H (yp_N m) c 6 = yp_col H (yp_N m) c n := yp_sm_tail hn (fun k h1 h2 => by
  show yp_bt (yp_N m) k * H (k * 7 + c) = yp_N 0
  rw [yp_bt_hi h1 (by omega) hm]
  exact Int32.zero_mul)

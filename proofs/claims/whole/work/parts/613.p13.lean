section EQS
variable {Q : yp_EnvT} {H : Nat → Int32}
set_option maxHeartbeats 1000000 in
theorem yp_sp_eq (hH : yp_HI Q H) {nf m : Nat} (hn : nf ≤ 6) (hm : m < 2 ^ nf) : (yp_SP H (yp_N m)).1 = (yp_fo (yp_rsG H (yp_N m) nf) 7 (yp_N 0, yp_N 0)).2 ∧ (yp_SP H (yp_N m)).2 = (yp_fo (yp_rsG H (yp_N m) nf) 7 (yp_N 0, yp_N 0)).1 := by
  have key : ∀ n, n < 7 → (yp_fo (fun c (a : Int32 × Int32) => (mxI a.1 (yp_col H (yp_N m) c 6), mnI a.2 (yp_col H (yp_N m) c 6))) (n + 1) (yp_N 0, yp_N 1680)).1 = (yp_fo (yp_rsG H (yp_N m) nf) (n + 1) (yp_N 0, yp_N 0)).2 ∧ (yp_fo (fun c (a : Int32 × Int32) => (mxI a.1 (yp_col H (yp_N m) c 6), mnI a.2 (yp_col H (yp_N m) c 6))) (n + 1) (yp_N 0, yp_N 1680)).2 = (yp_fo (yp_rsG H (yp_N m) nf) (n + 1) (yp_N 0, yp_N 0)).1 := by
    intro n
    induction n with
    | zero =>
      intro _
      show mxI (yp_N 0) (yp_col H (yp_N m) 0 6) = (if yp_col H (yp_N m) 0 nf ≤ yp_N 0 then yp_N 0 else yp_col H (yp_N m) 0 nf) ∧ mnI (yp_N 1680) (yp_col H (yp_N m) 0 6) = yp_col H (yp_N m) 0 nf
      rw [yp_col_tail hm hn]
      have h1 := hH.col (yp_N m) 0 (by omega) nf hn
      generalize yp_col H (yp_N m) 0 nf = c at h1 ⊢
      constructor
      · unfold mxI
        by_cases e : c ≤ yp_N 0
        · rw [if_pos e, if_neg (Int32.not_lt.mpr e)]
        · rw [if_neg e, if_pos (Int32.not_le.mp e)]
      · unfold mnI
        by_cases e : c < yp_N 1680
        · rw [if_pos e]
        · rw [if_neg e]
          rw [yp_eqTi, yp_tiN (by omega)]
          rw [yp_ltTi, yp_tiN (by omega)] at e
          omega
    | succ n ih =>
      intro hn7
      have h1 := ih (by omega)
      rw [yp_fo_s _ (n + 1), yp_fo_s _ (n + 1)]
      generalize yp_fo (fun c (a : Int32 × Int32) => (mxI a.1 (yp_col H (yp_N m) c 6), mnI a.2 (yp_col H (yp_N m) c 6))) (n + 1) (yp_N 0, yp_N 1680) = x at h1
      generalize yp_fo (yp_rsG H (yp_N m) nf) (n + 1) (yp_N 0, yp_N 0) = y at h1
      simp only [yp_rsG]
      rw [yp_col_tail hm hn, h1.1, h1.2, if_neg (show ¬ n + 1 = 0 by omega)]
      generalize yp_col H (yp_N m) (n + 1) nf = c
      constructor
      · unfold mxI
        by_cases e : c ≤ y.2
        · rw [if_pos e, if_neg (Int32.not_lt.mpr e)]
        · rw [if_neg e, if_pos (Int32.not_le.mp e)]
      · unfold mnI
        by_cases e : y.1 ≤ c
        · rw [if_pos e, if_neg (Int32.not_lt.mpr e)]
        · rw [if_neg e, if_pos (Int32.not_le.mp e)]
  exact key 6 (by omega)
set_option maxHeartbeats 1000000 in
theorem yp_fo_tail {S : Type} {g : Nat → S → S} {n m : Nat} {s : S} (hnm : n ≤ m) (h : ∀ k s, n ≤ k → k < m → g k s = s) : yp_fo g m s = yp_fo g n s := by
  induction m with
  | zero =>
    have : n = 0 := by omega
    subst this; rfl
  | succ m ih =>
    by_cases e : n = m + 1
    · subst e; rfl
    · rw [yp_fo_s, h m _ (by omega) (by omega), ih (by omega) (fun k s h1 h2 => h k s h1 (by omega))]
set_option maxHeartbeats 1000000 in
theorem yp_mn_bdd (b : Int32) (f : Nat) : mnI (yp_W H f) b = yp_bdd H b f := by
  unfold mnI yp_bdd
  by_cases e : b < yp_W H f
  · rw [if_pos e, if_pos (Int32.le_of_lt e)]
  · rw [if_neg e]
    by_cases e2 : b ≤ yp_W H f
    · rw [if_pos e2]
      exact Int32.le_antisymm (Int32.not_lt.mp e) e2
    · rw [if_neg e2]
set_option maxHeartbeats 1000000 in
theorem yp_gv_eq {nf m : Nat} (hn : nf ≤ 6) (hm : m < 2 ^ nf) (b : Int32) : yp_GV H (yp_N m) b = yp_sm (fun f => yp_bt (yp_N m) f * yp_bdd H b f) nf := by
  unfold yp_GV yp_sm
  rw [yp_fo_tail hn (fun k s h1 h2 => by rw [yp_bt_hi h1 (by omega) hm, if_neg (by decide)])]
  refine yp_fo_congr (fun k s hk => ?_)
  show (if yp_bt (yp_N m) k = yp_N 1 then s + mnI (yp_W H k) b else s) = s + yp_bt (yp_N m) k * yp_bdd H b k
  rw [yp_bt_mul, yp_mn_bdd]
  split
  · rfl
  · exact (Int32.add_zero _).symm
set_option maxHeartbeats 1000000 in
theorem yp_gv_all (hH : yp_HI Q H) {nf m : Nat} (hn : nf ≤ 6) (hm : m < 2 ^ nf) : yp_GV H (yp_N m) (yp_N 1680) = yp_sm (fun f => yp_bt (yp_N m) f * yp_W H f) nf := by
  rw [yp_gv_eq hn hm]
  refine yp_sm_congr (fun k hk => ?_)
  show yp_bt (yp_N m) k * yp_bdd H (yp_N 1680) k = yp_bt (yp_N m) k * yp_W H k
  have h1 := hH.W k (by omega)
  unfold yp_bdd
  split
  · rename_i e
    rw [yp_leTi, yp_tiN (by omega)] at e
    have : yp_N 1680 = yp_W H k := by rw [yp_eqTi, yp_tiN (by omega)]; omega
    rw [this]
  · rfl
set_option maxHeartbeats 1000000 in
theorem yp_col_one {k c : Nat} (hk : k < 6) : yp_col H (yp_b1 k) c 6 = H (k * 7 + c) := by
  have key : ∀ n, n ≤ 6 → yp_sm (fun f => yp_bt (yp_b1 k) f * H (f * 7 + c)) n = if k < n then H (k * 7 + c) else yp_N 0 := by
    intro n
    induction n with
    | zero => intro _; rfl
    | succ n ih =>
      intro hn
      rw [yp_sm_s, ih (by omega), yp_bt_mul, yp_bt_b1 k n (by omega) (by omega)]
      by_cases e : n = k
      · subst e
        rw [if_neg (by omega), if_pos rfl, if_pos rfl, if_pos (by omega)]
        exact Int32.zero_add _
      · rw [if_neg (show ¬ (if n = k then yp_N 1 else yp_N 0) = yp_N 1 by rw [if_neg e]; decide)]
        by_cases e2 : k < n
        · rw [if_pos e2, if_pos (by omega)]
          exact Int32.add_zero _
        · rw [if_neg e2, if_neg (by omega)]
          rfl
  have := key 6 (by omega)
  rw [if_pos (by omega)] at this
  exact this
set_option maxHeartbeats 1000000 in
theorem yp_gv_one (hH : yp_HI Q H) {k : Nat} (hk : k < 6) : yp_GV H (yp_b1 k) (yp_N 1680) = yp_W H k := by
  have h1 := hH.W k hk
  have e0 : mnI (yp_W H k) (yp_N 1680) = yp_W H k := by
    unfold mnI
    split
    · rename_i e
      rw [yp_ltTi, yp_tiN (by omega)] at e
      omega
    · rfl
  have key : ∀ n, n ≤ 6 → yp_fo (fun f a => if yp_bt (yp_b1 k) f = yp_N 1 then a + mnI (yp_W H f) (yp_N 1680) else a) n (yp_N 0) = if k < n then yp_W H k else yp_N 0 := by
    intro n
    induction n with
    | zero => intro _; rfl
    | succ n ih =>
      intro hn
      rw [yp_fo_s, ih (by omega), yp_bt_b1 k n (by omega) (by omega)]
      by_cases e : n = k
      · subst e
        rw [if_pos rfl, if_pos rfl, if_neg (by omega), if_pos (by omega), e0]
        exact Int32.zero_add _
      · rw [if_neg (show ¬ (if n = k then yp_N 1 else yp_N 0) = yp_N 1 by rw [if_neg e]; decide)]
        by_cases e2 : k < n
        · rw [if_pos e2, if_pos (by omega)]
        · rw [if_neg e2, if_neg (by omega)]
  have := key 6 (by omega)
  rw [if_pos (by omega)] at this
  exact this
abbrev yp_isWt (H : Nat → Int32) (k : Nat) : Prop := yp_N 0 < H (k * 7) ∧ ∀ c, c < 7 → H (k * 7 + c) = H (k * 7)
set_option maxHeartbeats 1000000 in
theorem yp_sp_mid (H : Nat → Int32) (s : Int32) : ∀ n, n ≤ 7 → ∀ c, c < n → ((yp_fo (fun c (a : Int32 × Int32) => (mxI a.1 (yp_col H s c 6), mnI a.2 (yp_col H s c 6))) n (yp_N 0, yp_N 1680)).2).toInt ≤ (yp_col H s c 6).toInt ∧ (yp_col H s c 6).toInt ≤ ((yp_fo (fun c (a : Int32 × Int32) => (mxI a.1 (yp_col H s c 6), mnI a.2 (yp_col H s c 6))) n (yp_N 0, yp_N 1680)).1).toInt := by
  intro n
  induction n with
  | zero => intro _ c hc; omega
  | succ n ih =>
    intro hn c hc
    rw [yp_fo_s]
    have h1 := ih (by omega)
    generalize yp_fo (fun c (a : Int32 × Int32) => (mxI a.1 (yp_col H s c 6), mnI a.2 (yp_col H s c 6))) n (yp_N 0, yp_N 1680) = x at h1
    simp only [yp_mxTi, yp_mnTi]
    by_cases e : c = n
    · subst e
      constructor
      · split <;> omega
      · split <;> omega
    · have h2 := h1 c (by omega)
      constructor
      · split <;> omega
      · split <;> omega
set_option maxHeartbeats 1000000 in
theorem yp_sp_const (H : Nat → Int32) (s v : Int32) (hv : 0 ≤ v.toInt ∧ v.toInt ≤ 1680) (h : ∀ c, c < 7 → yp_col H s c 6 = v) : yp_SP H s = (v, v) := by
  have key : ∀ n, n < 7 → yp_fo (fun c (a : Int32 × Int32) => (mxI a.1 (yp_col H s c 6), mnI a.2 (yp_col H s c 6))) (n + 1) (yp_N 0, yp_N 1680) = (v, v) := by
    intro n
    induction n with
    | zero =>
      intro _
      rw [yp_fo_s, yp_fo_0, h 0 (by omega)]
      refine Prod.ext ?_ ?_
      · show mxI (yp_N 0) v = v
        rw [yp_eqTi, yp_mxTi, yp_ti0]; split <;> omega
      · show mnI (yp_N 1680) v = v
        rw [yp_eqTi, yp_mnTi, yp_tiN (by omega)]; split <;> omega
    | succ n ih =>
      intro hn
      rw [yp_fo_s, ih (by omega), h (n + 1) (by omega)]
      refine Prod.ext ?_ ?_
      · show mxI v v = v
        rw [yp_eqTi, yp_mxTi]; split <;> rfl
      · show mnI v v = v
        rw [yp_eqTi, yp_mnTi]; split <;> rfl
  exact key 6 (by omega)
set_option maxHeartbeats 1000000 in
theorem yp_sub0 {a b : Int32} : a - b = yp_N 0 ↔ a = b := by
  constructor
  · intro h
    have h2 : a - b + b = yp_N 0 + b := by rw [h]
    rw [Int32.sub_add_cancel] at h2
    rw [h2]
    exact Int32.zero_add _
  · intro h
    rw [h]
    exact Int32.sub_self _
set_option maxHeartbeats 1000000 in
theorem yp_zs_const {v : Nat → Int} {x : Int} {n : Nat} (h : ∀ k, k < n → v k = x) : yp_zs v n = n * x := by
  induction n with
  | zero => simp [yp_zs]
  | succ n ih =>
    unfold yp_zs
    rw [ih (fun k hk => h k (by omega)), h n (by omega)]
    rw [Int.natCast_add, Int.add_mul]
    simp
set_option maxHeartbeats 1000000 in
theorem yp_isW_iff (hH : yp_HI Q H) {k : Nat} (hk : k < 6) : yp_isW H (yp_b1 k) = (if yp_isWt H k then yp_N 1 else yp_N 0) := by
  have hc : ∀ c, yp_col H (yp_b1 k) c 6 = H (k * 7 + c) := fun c => yp_col_one hk
  unfold yp_isW
  rw [yp_gv_one hH hk]
  have hW := hH.W k hk
  by_cases h : yp_isWt H k
  · rw [if_pos h]
    have e1 := yp_sp_const H (yp_b1 k) (H (k * 7)) (by
      have h1 := hH.1 (k * 7) (by omega)
      have h2 := hH.le (k * 7) (by omega)
      omega) (fun c hcc => by rw [hc]; exact h.2 c hcc)
    rw [e1, if_pos (yp_sub0.mpr rfl), if_neg]
    rw [Int32.not_le, yp_ltTi, yp_ti0, hW.1, yp_zs_const (x := (H (k * 7)).toInt) (fun c hcc => by rw [h.2 c hcc])]
    have h3 := h.1
    rw [yp_ltTi, yp_ti0] at h3
    omega
  · rw [if_neg h]
    by_cases e : (yp_SP H (yp_b1 k)).1 - (yp_SP H (yp_b1 k)).2 = yp_N 0
    · rw [if_pos e]
      rw [yp_sub0] at e
      have h1 : ∀ c, c < 7 → H (k * 7 + c) = H (k * 7) := fun c hcc => by
        have m1 := yp_sp_mid H (yp_b1 k) 7 (by omega) c hcc
        have m2 := yp_sp_mid H (yp_b1 k) 7 (by omega) 0 (by omega)
        have e2 : (yp_SP H (yp_b1 k)).1.toInt = (yp_SP H (yp_b1 k)).2.toInt := by rw [e]
        unfold yp_SP at e2
        rw [hc] at m1 m2
        rw [yp_eqTi]
        simp only [Nat.add_zero] at m2
        omega
      rw [if_pos]
      have h4 : ¬ yp_N 0 < H (k * 7) := fun h5 => h ⟨h5, h1⟩
      rw [yp_ltTi, yp_ti0] at h4
      rw [yp_leTi, yp_ti0, hW.1, yp_zs_const (x := (H (k * 7)).toInt) (fun c hcc => by rw [h1 c hcc])]
      omega
    · rw [if_neg e]
set_option maxHeartbeats 1000000 in
theorem yp_rW_iff (H : Nat → Int32) (k : Nat) : yp_rW H k = (if yp_isWt H k then yp_N 1 else yp_N 0) := by
  have key : ∀ n, n ≤ 6 → yp_fo (yp_rwG H k) n (if H (k * 7) ≤ yp_N 0 then yp_N 0 else yp_N 1) = if yp_N 0 < H (k * 7) ∧ ∀ c, c < n + 1 → H (k * 7 + c) = H (k * 7) then yp_N 1 else yp_N 0 := by
    intro n
    induction n with
    | zero =>
      intro _
      rw [yp_fo_0]
      by_cases e : H (k * 7) ≤ yp_N 0
      · rw [if_pos e, if_neg (fun h => absurd h.1 (Int32.not_lt.mpr e))]
      · rw [if_neg e, if_pos ⟨Int32.not_le.mp e, fun c hc => by rw [show c = 0 by omega]; rfl⟩]
    | succ n ih =>
      intro hn
      rw [yp_fo_s, ih (by omega)]
      unfold yp_rwG
      by_cases e : yp_N 0 < H (k * 7) ∧ ∀ c, c < n + 1 → H (k * 7 + c) = H (k * 7)
      · rw [if_pos e, if_neg (by decide)]
        by_cases e2 : H (k * 7 + (n + 1)) = H (k * 7)
        · rw [if_pos e2, if_pos ⟨e.1, fun c hc => by
            by_cases e3 : c = n + 1
            · rw [e3]; exact e2
            · exact e.2 c (by omega)⟩]
        · rw [if_neg e2, if_neg (fun h => e2 (h.2 (n + 1) (by omega)))]
      · rw [if_neg e, if_pos rfl, if_neg (fun h => e ⟨h.1, fun c hc => h.2 c (by omega)⟩)]
  exact key 6 (by omega)
set_option maxHeartbeats 1000000 in
theorem yp_whites_eq (hH : yp_HI Q H) (hn : yp_qf Q ≤ 6) : yp_fo (yp_wbG H) 6 (yp_N 0) = yp_fo (fun k a => a ||| (if yp_rW H k = yp_N 0 then yp_N 0 else yp_b1 k)) (yp_qf Q) (yp_N 0) := by
  rw [yp_fo_tail hn (fun k s h1 h2 => by
    have h3 := (hH.2.1 (k * 7) (by omega) (by omega)).1
    unfold yp_wbG
    have h5 : ¬ yp_isWt H k := fun h => by
      have h4 := h.1
      rw [h3] at h4
      exact absurd h4 (by decide)
    rw [yp_isW_iff hH h2, if_neg h5, if_pos rfl])]
  refine yp_fo_congr (fun k s hk => ?_)
  unfold yp_wbG
  rw [yp_isW_iff hH (by omega), yp_rW_iff]
  by_cases e : yp_isWt H k
  · rw [if_pos e, if_neg (by decide), if_neg (by decide)]
  · rw [if_neg e, if_pos rfl, if_pos rfl]
    exact (yp_or0 s).symm
end EQS

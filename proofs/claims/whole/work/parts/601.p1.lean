def yp_N (k : Nat) : Int32 := Int32.ofNat k
set_option maxHeartbeats 1000000 in
theorem yp_LT : (0 : Int32) = yp_N 0 ∧ (1 : Int32) = yp_N 1 ∧ (2 : Int32) = yp_N 2 ∧ (3 : Int32) = yp_N 3 ∧ (4 : Int32) = yp_N 4 ∧ (5 : Int32) = yp_N 5 ∧ (6 : Int32) = yp_N 6 ∧ (7 : Int32) = yp_N 7 ∧ (8 : Int32) = yp_N 8 ∧ (9 : Int32) = yp_N 9 ∧ (10 : Int32) = yp_N 10 ∧ (11 : Int32) = yp_N 11 ∧ (12 : Int32) = yp_N 12 ∧ (13 : Int32) = yp_N 13 ∧ (14 : Int32) = yp_N 14 ∧ (15 : Int32) = yp_N 15 ∧ (16 : Int32) = yp_N 16 ∧ (17 : Int32) = yp_N 17 ∧ (18 : Int32) = yp_N 18 ∧ (19 : Int32) = yp_N 19 ∧ (20 : Int32) = yp_N 20 ∧ (21 : Int32) = yp_N 21 ∧ (22 : Int32) = yp_N 22 ∧ (23 : Int32) = yp_N 23 ∧ (24 : Int32) = yp_N 24 ∧ (25 : Int32) = yp_N 25 ∧ (26 : Int32) = yp_N 26 ∧ (27 : Int32) = yp_N 27 ∧ (28 : Int32) = yp_N 28 ∧ (29 : Int32) = yp_N 29 ∧ (30 : Int32) = yp_N 30 ∧ (31 : Int32) = yp_N 31 ∧ (32 : Int32) = yp_N 32 ∧ (33 : Int32) = yp_N 33 ∧ (34 : Int32) = yp_N 34 ∧ (35 : Int32) = yp_N 35 ∧ (36 : Int32) = yp_N 36 ∧ (37 : Int32) = yp_N 37 ∧ (38 : Int32) = yp_N 38 ∧ (39 : Int32) = yp_N 39 ∧ (40 : Int32) = yp_N 40 ∧ (41 : Int32) = yp_N 41 ∧ (42 : Int32) = yp_N 42 ∧ (43 : Int32) = yp_N 43 ∧ (44 : Int32) = yp_N 44 ∧ (45 : Int32) = yp_N 45 ∧ (46 : Int32) = yp_N 46 ∧ (47 : Int32) = yp_N 47 ∧ (48 : Int32) = yp_N 48 ∧ (49 : Int32) = yp_N 49 ∧ (50 : Int32) = yp_N 50 ∧ (51 : Int32) = yp_N 51 ∧ (52 : Int32) = yp_N 52 ∧ (53 : Int32) = yp_N 53 ∧ (54 : Int32) = yp_N 54 ∧ (55 : Int32) = yp_N 55 ∧ (56 : Int32) = yp_N 56 ∧ (57 : Int32) = yp_N 57 ∧ (58 : Int32) = yp_N 58 ∧ (59 : Int32) = yp_N 59 ∧ (60 : Int32) = yp_N 60 ∧ (61 : Int32) = yp_N 61 ∧ (62 : Int32) = yp_N 62 ∧ (63 : Int32) = yp_N 63 ∧ (76 : Int32) = yp_N 76 ∧ (84 : Int32) = yp_N 84 ∧ (91 : Int32) = yp_N 91 ∧ (93 : Int32) = yp_N 93 ∧ (96 : Int32) = yp_N 96 ∧ (97 : Int32) = yp_N 97 ∧ (98 : Int32) = yp_N 98 ∧ (99 : Int32) = yp_N 99 ∧ (100 : Int32) = yp_N 100 ∧ (101 : Int32) = yp_N 101 ∧ (102 : Int32) = yp_N 102 ∧ (103 : Int32) = yp_N 103 ∧ (104 : Int32) = yp_N 104 ∧ (105 : Int32) = yp_N 105 ∧ (106 : Int32) = yp_N 106 ∧ (107 : Int32) = yp_N 107 ∧ (108 : Int32) = yp_N 108 ∧ (109 : Int32) = yp_N 109 ∧ (110 : Int32) = yp_N 110 ∧ (111 : Int32) = yp_N 111 ∧ (112 : Int32) = yp_N 112 ∧ (114 : Int32) = yp_N 114 ∧ (115 : Int32) = yp_N 115 ∧ (116 : Int32) = yp_N 116 ∧ (117 : Int32) = yp_N 117 ∧ (118 : Int32) = yp_N 118 ∧ (119 : Int32) = yp_N 119 ∧ (120 : Int32) = yp_N 120 ∧ (121 : Int32) = yp_N 121 ∧ (122 : Int32) = yp_N 122 ∧ (126 : Int32) = yp_N 126 ∧ (128 : Int32) = yp_N 128 ∧ (150 : Int32) = yp_N 150 ∧ (151 : Int32) = yp_N 151 ∧ (168 : Int32) = yp_N 168 ∧ (174 : Int32) = yp_N 174 ∧ (175 : Int32) = yp_N 175 ∧ (200 : Int32) = yp_N 200 ∧ (255 : Int32) = yp_N 255 ∧ (400 : Int32) = yp_N 400 ∧ (600 : Int32) = yp_N 600 ∧ (720 : Int32) = yp_N 720 ∧ (999 : Int32) = yp_N 999 ∧ (1000 : Int32) = yp_N 1000 ∧ (1002 : Int32) = yp_N 1002 ∧ (1100 : Int32) = yp_N 1100 ∧ (1101 : Int32) = yp_N 1101 ∧ (1102 : Int32) = yp_N 1102 ∧ (1103 : Int32) = yp_N 1103 ∧ (1104 : Int32) = yp_N 1104 ∧ (1105 : Int32) = yp_N 1105 ∧ (1106 : Int32) = yp_N 1106 ∧ (1680 : Int32) = yp_N 1680 ∧ (1681 : Int32) = yp_N 1681 ∧ (2048 : Int32) = yp_N 2048 ∧ (2800 : Int32) = yp_N 2800 ∧ (2976 : Int32) = yp_N 2976 ∧ (4096 : Int32) = yp_N 4096 ∧ (4752 : Int32) = yp_N 4752 ∧ (5040 : Int32) = yp_N 5040 ∧ (8928 : Int32) = yp_N 8928 ∧ (9999 : Int32) = yp_N 9999 ∧ (10000 : Int32) = yp_N 10000 ∧ (12345 : Int32) = yp_N 12345 ∧ (32767 : Int32) = yp_N 32767 ∧ (100000 : Int32) = yp_N 100000 := by
  refine ⟨rfl, rfl, rfl, rfl, rfl, rfl, rfl, rfl, rfl, rfl, rfl, rfl, rfl, rfl, rfl, rfl, rfl, rfl, rfl, rfl, rfl, rfl, rfl, rfl, rfl, rfl, rfl, rfl, rfl, rfl, rfl, rfl, rfl, rfl, rfl, rfl, rfl, rfl, rfl, rfl, rfl, rfl, rfl, rfl, rfl, rfl, rfl, rfl, rfl, rfl, rfl, rfl, rfl, rfl, rfl, rfl, rfl, rfl, rfl, rfl, rfl, rfl, rfl, rfl, rfl, rfl, rfl, rfl, rfl, rfl, rfl, rfl, rfl, rfl, rfl, rfl, rfl, rfl, rfl, rfl, rfl, rfl, rfl, rfl, rfl, rfl, rfl, rfl, rfl, rfl, rfl, rfl, rfl, rfl, rfl, rfl, rfl, rfl, rfl, rfl, rfl, rfl, rfl, rfl, rfl, rfl, rfl, rfl, rfl, rfl, rfl, rfl, rfl, rfl, rfl, rfl, rfl, rfl, rfl, rfl, rfl, rfl, rfl, rfl, rfl, rfl, rfl, rfl, rfl, rfl⟩
def yp_fo {S : Type} (g : Nat → S → S) : Nat → S → S
  | 0, s => s
  | n + 1, s => g n (yp_fo g n s)
def yp_sm (v : Nat → Int32) (n : Nat) : Int32 := yp_fo (fun k s => s + v k) n (yp_N 0)
set_option maxHeartbeats 1000000 in
theorem yp_lpI {S X : Type} {step : S → Option (S ⊕ X)} (I : Nat → S → Prop) (Q : X → Prop) (n : Nat) (h : ∀ k s, k ≤ n → I k s → (k < n ∧ ∃ t, step s = some (.inl t) ∧ I (k + 1) t) ∨ (∃ x, step s = some (.inr x) ∧ Q x)) {s0 : S} {fu : Nat} (hf : n < fu) (h0 : I 0 s0) : ∃ x, loopN step fu s0 = some x ∧ Q x := by
  have key : ∀ m k s, k ≤ n → n - k < m → I k s → ∃ x, loopN step m s = some x ∧ Q x := by
    intro m
    induction m with
    | zero => intro k s h1 h2; omega
    | succ m ih =>
      intro k s h1 h2 h3
      rcases h k s h1 h3 with ⟨h4, t, h5, h6⟩ | ⟨x, h5, h6⟩
      · obtain ⟨x, h7, h8⟩ := ih (k + 1) t (by omega) (by omega) h6
        refine ⟨x, ?_, h8⟩
        unfold loopN
        rw [h5]
        exact h7
      · refine ⟨x, ?_, h6⟩
        unfold loopN
        rw [h5]
        rfl
  exact key fu 0 s0 (Nat.zero_le _) (by omega) h0
set_option maxHeartbeats 1000000 in
theorem yp_lpF {S T X : Type} {step : T → Option (T ⊕ X)} (mk : Nat → S → T) (g : Nat → S → S) (e : S → X) (n : Nat) (s0 : S) (h : ∀ k s, k < n → s = yp_fo g k s0 → step (mk k s) = some (.inl (mk (k + 1) (g k s)))) (hx : ∀ s, s = yp_fo g n s0 → step (mk n s) = some (.inr (e s))) {fu : Nat} (hf : n < fu) {t0 : T} (ht : t0 = mk 0 s0) : loopN step fu t0 = some (e (yp_fo g n s0)) := by
  obtain ⟨x, h1, h2⟩ := yp_lpI (step := step) (fun k t => t = mk k (yp_fo g k s0)) (fun x => x = e (yp_fo g n s0)) n (fun k t hk ht => by
    subst ht
    by_cases hkn : k < n
    · exact .inl ⟨hkn, _, h k _ hkn rfl, rfl⟩
    · have : k = n := by omega
      subst this
      exact .inr ⟨_, hx _ rfl, rfl⟩) hf ht
  rw [h1, h2]
set_option maxHeartbeats 1000000 in
theorem yp_lpB {S T X Y : Type} {step : T → Option (T ⊕ X)} {F : X → Option Y} (mk : Nat → S → T) (g : Nat → S → S) (e : S → X) (n : Nat) (s0 : S) {fu : Nat} (hf : n < fu) {t0 : T} (ht : t0 = mk 0 s0) (h : ∀ k s, k < n → s = yp_fo g k s0 → step (mk k s) = some (.inl (mk (k + 1) (g k s)))) (hx : ∀ s, s = yp_fo g n s0 → step (mk n s) = some (.inr (e s))) : (loopN step fu t0).bind F = F (e (yp_fo g n s0)) := by
  rw [yp_lpF mk g e n s0 h hx hf ht]
  rfl
set_option maxHeartbeats 1000000 in
theorem yp_FUe : FU = 8000 := rfl
set_option maxHeartbeats 1000000 in
theorem yp_nA (a b : Nat) : yp_N a + yp_N b = yp_N (a + b) := (Int32.ofNat_add a b).symm
set_option maxHeartbeats 1000000 in
theorem yp_nM (a b : Nat) : yp_N a * yp_N b = yp_N (a * b) := (Int32.ofNat_mul a b).symm
set_option maxHeartbeats 1000000 in
theorem yp_tiN {a : Nat} (h : a < 2147483648) : (yp_N a).toInt = a := Int32.toInt_ofNat_of_lt (by simpa using h)
set_option maxHeartbeats 1000000 in
theorem yp_leN {a b : Nat} (ha : a < 2147483648) (hb : b < 2147483648) : (yp_N a ≤ yp_N b) = (a ≤ b) := by
  rw [Int32.le_iff_toInt_le, yp_tiN ha, yp_tiN hb]; simp
set_option maxHeartbeats 1000000 in
theorem yp_ltN {a b : Nat} (ha : a < 2147483648) (hb : b < 2147483648) : (yp_N a < yp_N b) = (a < b) := by
  rw [Int32.lt_iff_toInt_lt, yp_tiN ha, yp_tiN hb]; simp
set_option maxHeartbeats 1000000 in
theorem yp_eqN {a b : Nat} (ha : a < 2147483648) (hb : b < 2147483648) : (yp_N a = yp_N b) = (a = b) := by
  rw [← Int32.toInt_inj, yp_tiN ha, yp_tiN hb]; apply propext; omega
set_option maxHeartbeats 1000000 in
theorem yp_nS {a b : Nat} (h : b ≤ a) : yp_N a - yp_N b = yp_N (a - b) := by
  have h1 := yp_nA (a - b) b
  rw [show a - b + b = a by omega] at h1
  rw [← h1, Int32.add_sub_cancel]
set_option maxHeartbeats 1000000 in
theorem yp_tiM : (-yp_N 1 : Int32).toInt = -1 := rfl
set_option maxHeartbeats 1000000 in
theorem yp_eqM {a : Nat} (ha : a < 2147483648) : (yp_N a = -yp_N 1) = False := by
  rw [← Int32.toInt_inj, yp_tiN ha, yp_tiM]; simp only [eq_iff_iff, iff_false, iff_true]; omega
set_option maxHeartbeats 1000000 in
theorem yp_eqM' {a : Nat} (ha : a < 2147483648) : (-yp_N 1 = yp_N a) = False := by
  rw [← Int32.toInt_inj, yp_tiN ha, yp_tiM]; simp only [eq_iff_iff, iff_false, iff_true]; omega
set_option maxHeartbeats 1000000 in
theorem yp_ltM {a : Nat} (ha : a < 2147483648) : (yp_N a < -yp_N 1) = False := by
  rw [Int32.lt_iff_toInt_lt, yp_tiN ha, yp_tiM]; simp only [eq_iff_iff, iff_false, iff_true]; omega
set_option maxHeartbeats 1000000 in
theorem yp_ltM' {a : Nat} (ha : a < 2147483648) : (-yp_N 1 < yp_N a) = True := by
  rw [Int32.lt_iff_toInt_lt, yp_tiN ha, yp_tiM]; simp only [eq_iff_iff, iff_false, iff_true]; omega
set_option maxHeartbeats 1000000 in
theorem yp_leM {a : Nat} (ha : a < 2147483648) : (yp_N a ≤ -yp_N 1) = False := by
  rw [Int32.le_iff_toInt_le, yp_tiN ha, yp_tiM]; simp only [eq_iff_iff, iff_false, iff_true]; omega
set_option maxHeartbeats 1000000 in
theorem yp_leM' {a : Nat} (ha : a < 2147483648) : (-yp_N 1 ≤ yp_N a) = True := by
  rw [Int32.le_iff_toInt_le, yp_tiN ha, yp_tiM]; simp only [eq_iff_iff, iff_false, iff_true]; omega
set_option maxHeartbeats 1000000 in
theorem yp_tcN {a : Nat} (h : a < 2147483648) : (yp_N a).toNatClampNeg = a := by
  have h1 := yp_tiN h
  unfold Int32.toNatClampNeg
  rw [h1]
  rfl
set_option maxHeartbeats 1000000 in
theorem yp_nnN {a : Nat} (h : a < 2147483648) : ¬ yp_N a < 0 := by
  rw [Int32.lt_iff_toInt_lt, yp_tiN h]; simp
set_option maxHeartbeats 1000000 in
theorem yp_ofN {x : Int32} (h : 0 ≤ x.toInt) : ∃ k, x = yp_N k ∧ (k : Int) = x.toInt ∧ k < 2147483648 := by
  have h3 := Int32.toInt_lt x
  refine ⟨x.toInt.toNat, ?_, by omega, by omega⟩
  rw [← Int32.toInt_inj, yp_tiN (by omega)]
  omega
set_option maxHeartbeats 1000000 in
theorem yp_aLN {sh : Shp} {a n : Nat} (h : sh a = some (.inl n)) (mm : Mem) (k : Nat) (hk : k < n) (hn : k < 2147483648) : aL sh mm a (yp_N k) = some (mm a k) := by
  simp only [aL, h, yp_tcN hn]
  rw [if_neg]
  intro h2
  rcases h2 with h2 | h2
  · exact yp_nnN hn h2
  · omega
set_option maxHeartbeats 1000000 in
theorem yp_aSN {sh : Shp} {a n : Nat} (h : sh a = some (.inl n)) (mm : Mem) (k : Nat) (v : Int32) (hk : k < n) (hn : k < 2147483648) : aS sh mm a (yp_N k) v = some (up2 mm a k v) := by
  simp only [aS, h, yp_tcN hn]
  rw [if_neg]
  intro h2
  rcases h2 with h2 | h2
  · exact yp_nnN hn h2
  · omega
set_option maxHeartbeats 1000000 in
theorem yp_aCN {sh : Shp} {a b n0 n1 : Nat} (ha : sh a = some (.inl n0)) (hb : sh b = some (.inl n1)) (mm : Mem) (sp dp n : Nat) (h0 : sp + n ≤ n0) (h1 : dp + n ≤ n1) (h2 : sp + n < 2147483648) (h3 : dp + n < 2147483648) : aC sh mm a (yp_N sp) b (yp_N dp) (yp_N n) = some (cpy2 mm a b sp dp n) := by
  simp only [aC, ha, hb, yp_tcN (show sp < 2147483648 by omega), yp_tcN (show dp < 2147483648 by omega), yp_tcN (show n < 2147483648 by omega)]
  rw [if_neg]
  intro h
  rcases h with h | h | h | h | h
  · exact yp_nnN (by omega) h
  · exact yp_nnN (by omega) h
  · exact yp_nnN (by omega) h
  · omega
  · omega
set_option maxHeartbeats 1000000 in
theorem yp_up2_s (mm : Mem) (a k : Nat) (v : Int32) : up2 mm a k v a k = v := by simp [up2]
set_option maxHeartbeats 1000000 in
theorem yp_up2_n (mm : Mem) {a k b j : Nat} (v : Int32) (h : b = a → j ≠ k) : up2 mm a k v b j = mm b j := by
  unfold up2
  rw [if_neg]
  intro h2
  exact h h2.1 h2.2
set_option maxHeartbeats 1000000 in
theorem yp_sb {α β : Type} (x : α) (f : α → Option β) : (some x).bind f = f x := rfl
set_option maxHeartbeats 1000000 in
theorem yp_sb2 {α β γ : Type} (x : α) (y : β) (f : α → β → Option γ) : bd2 (some (x, y)) f = f x y := rfl
set_option maxHeartbeats 1000000 in
theorem yp_l1e {α β : Type} (x : α) (f : α → Option β) : lt1 x f = f x := rfl
set_option maxHeartbeats 1000000 in
theorem yp_c_sum {sh : Shp} {a n : Nat} (mm : Mem) (hs : sh a = some (.inl n)) (p m : Nat) (h : p + m ≤ n) (hn : m < 8000) (hp : p + m < 2147483648) : fX11_sum sh a (yp_N p) (yp_N (p + m)) mm = some (yp_sm (fun i => mm a (p + i)) m) := by
  simp only [fX11_sum, lt1, fX11_sum_j24, yp_LT]
  refine yp_lpB (fun k s => (s, yp_N (p + k))) (fun k s => s + mm a (p + k)) id m (yp_N 0) (by rw [yp_FUe]; omega) rfl (fun k s hk _ => ?_) (fun s _ => ?_)
  · simp (disch := omega) only [fX11_sum_b5, yp_leN, yp_aLN hs, yp_sb, lt1, yp_LT, yp_nA]
    rw [if_neg (by omega)]; rfl
  · simp (disch := omega) only [fX11_sum_b5, yp_leN]
    simp

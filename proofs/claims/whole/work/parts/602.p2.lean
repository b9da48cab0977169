def yp_HS (sh : Shp) (x : Nat) : Prop := ((rR sh 2 x 0 = some (x + 1) ∧ rR sh 2 x 1 = some (x + 2) ∧ rR sh 2 x 2 = some (x + 3) ∧ rR sh 2 x 3 = some (x + 4) ∧ rR sh 2 x 4 = some (x + 5)) ∧ isO sh 2 x = some () ∧ (∀ mm, rI sh mm 2 x 5 = some (mm x 5)) ∧ (∀ mm v, wI sh mm 2 x 5 v = some (up2 mm x 5 v))) ∧ (sh (x + 1) = some (.inl 42) ∧ sh (x + 2) = some (.inl 42) ∧ sh (x + 3) = some (.inl 42) ∧ sh (x + 4) = some (.inl 42) ∧ sh (x + 5) = some (.inl 6))
def yp_HC (mm : Mem) (x : Nat) (H : Nat → Int32) : Prop := (∀ k, k < 42 → mm (x + 1) k = H k) ∧ (∀ k, k < 42 → mm (x + 2) k = H (42 + k)) ∧ (∀ k, k < 42 → mm (x + 3) k = H (84 + k)) ∧ (∀ k, k < 42 → mm (x + 4) k = H (126 + k)) ∧ (∀ k, k < 6 → mm (x + 5) k = H (168 + k)) ∧ mm x 5 = H 174
set_option maxHeartbeats 1000000 in
theorem yp_fo_congr {S : Type} {g g' : Nat → S → S} {n : Nat} {s : S} (h : ∀ k s, k < n → g k s = g' k s) : yp_fo g n s = yp_fo g' n s := by
  induction n with
  | zero => rfl
  | succ n ih =>
    unfold yp_fo
    rw [ih (fun k s hk => h k s (by omega)), h n _ (by omega)]
set_option maxHeartbeats 1000000 in
theorem yp_sm_congr {v w : Nat → Int32} {n : Nat} (h : ∀ k, k < n → v k = w k) : yp_sm v n = yp_sm w n := yp_fo_congr (fun k s hk => by rw [h k hk])
def yp_W (H : Nat → Int32) (f : Nat) : Int32 := yp_sm (fun i => H (f * 7 + i)) 7
def yp_bt (s : Int32) (k : Nat) : Int32 := (s >>> (yp_N k &&& yp_N 31)) &&& yp_N 1
def yp_b1 (k : Nat) : Int32 := yp_N 1 <<< (yp_N k &&& yp_N 31)
def yp_GV (H : Nat → Int32) (s b : Int32) : Int32 := yp_fo (fun k a => if yp_bt s k = yp_N 1 then a + mnI (yp_W H k) b else a) 6 (yp_N 0)
def yp_col (H : Nat → Int32) (s : Int32) (c n : Nat) : Int32 := yp_sm (fun f => yp_bt s f * H (f * 7 + c)) n
def yp_SP (H : Nat → Int32) (s : Int32) : Int32 × Int32 := yp_fo (fun c (a : Int32 × Int32) => (mxI a.1 (yp_col H s c 6), mnI a.2 (yp_col H s c 6))) 7 (yp_N 0, yp_N 1680)
def yp_isW (H : Nat → Int32) (s : Int32) : Int32 := if (yp_SP H s).1 - (yp_SP H s).2 = yp_N 0 then (if yp_GV H s (yp_N 1680) ≤ yp_N 0 then yp_N 0 else yp_N 1) else yp_N 0
def yp_wbG (H : Nat → Int32) (k : Nat) (a : Int32) : Int32 := if yp_isW H (yp_b1 k) = yp_N 0 then a else a ||| yp_b1 k
def yp_dkG (H : Nat → Int32) (f k : Nat) (a : Int32) : Int32 := if H (f * 7 + k) = yp_N 0 ∧ H (42 + (f * 7 + k)) = yp_N 0 then a ||| yp_b1 k else a
def yp_ltG (H : Nat → Int32) (n : Int32) (k : Nat) (a : Int32) : Int32 := if H (42 + k) ≤ n then a else a ||| yp_b1 (k / 7)
def yp_lpG (H : Nat → Int32) (f k : Nat) (a : Int32) : Int32 := if H (42 + (f * 7 + k)) ≤ yp_N 0 then a else if a = -yp_N 1 then H (84 + (f * 7 + k)) else if a ≤ H (84 + (f * 7 + k)) then a else H (84 + (f * 7 + k))
def yp_gpG (H : Nat → Int32) (f k : Nat) (a : Int32) : Int32 := if H (42 + (f * 7 + k)) ≤ yp_N 0 then a else mxI a (H (84 + (f * 7 + k)))
def yp_nrG (H : Nat → Int32) (p n : Int32) (k : Nat) (a : Int32) : Int32 := if n < abI (H (84 + k) - p) then a else a + H (42 + k)
def yp_mpG (H : Nat → Int32) (f k a : Nat) : Nat := if H (f * 7 + (k + 1)) ≤ H (f * 7 + a) then a else k + 1
set_option maxHeartbeats 1000000 in
theorem yp_mp_lt (H : Nat → Int32) (f : Nat) : ∀ k, k ≤ 6 → yp_fo (yp_mpG H f) k 0 ≤ k := by
  intro k
  induction k with
  | zero => intro _; exact Nat.le_refl 0
  | succ k ih =>
    intro h
    have h2 := ih (by omega)
    have h3 : yp_fo (yp_mpG H f) (k + 1) 0 = yp_mpG H f k (yp_fo (yp_mpG H f) k 0) := rfl
    rw [h3]
    generalize yp_fo (yp_mpG H f) k 0 = z at h2
    unfold yp_mpG
    split <;> omega
def yp_blur (H : Nat → Int32) (f : Nat) : Prop := ∃ k j, k < 7 ∧ j < k ∧ yp_N 0 < H (42 + (f * 7 + k)) ∧ yp_N 0 < H (42 + (f * 7 + j)) ∧ H (84 + (f * 7 + k)) = H (84 + (f * 7 + j))
def yp_up1 (H : Nat → Int32) (k : Nat) (v : Int32) : Nat → Int32 := fun j => if j = k then v else H j
def yp_Fr (T : Nat → Nat → Prop) (mm mm' : Mem) : Prop := ∀ a j, ¬ T a j → mm' a j = mm a j
set_option maxHeartbeats 1000000 in
theorem yp_Fr.rf {T : Nat → Nat → Prop} {mm : Mem} : yp_Fr T mm mm := fun _ _ _ => rfl
set_option maxHeartbeats 1000000 in
theorem yp_Fr.tr {T : Nat → Nat → Prop} {m1 m2 m3 : Mem} (h1 : yp_Fr T m1 m2) (h2 : yp_Fr T m2 m3) : yp_Fr T m1 m3 := fun a j h => (h2 a j h).trans (h1 a j h)
set_option maxHeartbeats 1000000 in
theorem yp_Fr.up {T : Nat → Nat → Prop} {m1 m2 : Mem} {a k : Nat} {v : Int32} (h1 : yp_Fr T m1 m2) (h : T a k) : yp_Fr T m1 (up2 m2 a k v) := fun b j hb => by
  rw [yp_up2_n _ _ (fun e e2 => hb (by rw [e, e2]; exact h))]
  exact h1 b j hb
set_option maxHeartbeats 1000000 in
theorem yp_Fr.cp {T : Nat → Nat → Prop} {m1 m2 : Mem} {a b sp dp n : Nat} (h1 : yp_Fr T m1 m2) (h : ∀ j, T b j) : yp_Fr T m1 (cpy2 m2 a b sp dp n) := fun c j hb => by
  unfold cpy2
  rw [if_neg (fun e => hb (by rw [e.1]; exact h j))]
  exact h1 c j hb
set_option maxHeartbeats 1000000 in
theorem yp_Fr.mono {T U : Nat → Nat → Prop} {m1 m2 : Mem} (h1 : yp_Fr T m1 m2) (h : ∀ a j, T a j → U a j) : yp_Fr U m1 m2 := fun a j hb => h1 a j (fun e => hb (h a j e))
def yp_IH (x : Nat) : Nat → Nat → Prop := fun a _ => x ≤ a ∧ a ≤ x + 5
section HALL
variable {sh : Shp} {x : Nat} {mm : Mem} {H : Nat → Int32}
set_option maxHeartbeats 1000000 in
theorem yp_HSx (hS : yp_HS sh x) : (((rR sh 2 x 0 = some (x + 1) ∧ rR sh 2 x 1 = some (x + 2) ∧ rR sh 2 x 2 = some (x + 3) ∧ rR sh 2 x 3 = some (x + 4) ∧ rR sh 2 x 4 = some (x + 5)) ∧ isO sh 2 x = some () ∧ (∀ mm, rI sh mm 2 x 5 = some (mm x 5)) ∧ (∀ mm v, wI sh mm 2 x 5 v = some (up2 mm x 5 v)))) ∧ (∀ mm k, k < 42 → aL sh mm (x + 1) (yp_N k) = some (mm (x + 1) k)) ∧ (∀ mm k, k < 42 → aL sh mm (x + 2) (yp_N k) = some (mm (x + 2) k)) ∧ (∀ mm k, k < 42 → aL sh mm (x + 3) (yp_N k) = some (mm (x + 3) k)) ∧ (∀ mm k, k < 42 → aL sh mm (x + 4) (yp_N k) = some (mm (x + 4) k)) ∧ (∀ mm k, k < 6 → aL sh mm (x + 5) (yp_N k) = some (mm (x + 5) k)) ∧ (∀ mm k v, k < 42 → aS sh mm (x + 1) (yp_N k) v = some (up2 mm (x + 1) k v)) ∧ (∀ mm k v, k < 42 → aS sh mm (x + 2) (yp_N k) v = some (up2 mm (x + 2) k v)) ∧ (∀ mm k v, k < 42 → aS sh mm (x + 3) (yp_N k) v = some (up2 mm (x + 3) k v)) ∧ (∀ mm k v, k < 42 → aS sh mm (x + 4) (yp_N k) v = some (up2 mm (x + 4) k v)) ∧ (∀ mm k v, k < 6 → aS sh mm (x + 5) (yp_N k) v = some (up2 mm (x + 5) k v)) := by
  obtain ⟨h0, h1, h2, h3, h4, h5⟩ := hS
  exact ⟨h0, fun mm k h => yp_aLN h1 mm k h (by omega), fun mm k h => yp_aLN h2 mm k h (by omega), fun mm k h => yp_aLN h3 mm k h (by omega), fun mm k h => yp_aLN h4 mm k h (by omega), fun mm k h => yp_aLN h5 mm k h (by omega), fun mm k v h => yp_aSN h1 mm k v h (by omega), fun mm k v h => yp_aSN h2 mm k v h (by omega), fun mm k v h => yp_aSN h3 mm k v h (by omega), fun mm k v h => yp_aSN h4 mm k v h (by omega), fun mm k v h => yp_aSN h5 mm k v h (by omega)⟩
set_option maxHeartbeats 1000000 in
theorem yp_h_sum {mm : Mem} {a n : Nat} {R : Nat → Int32} (hs : sh a = some (.inl n)) (p m : Nat) (hR : ∀ k, k < m → mm a (p + k) = R k) (h : p + m ≤ n) (hn : m < 8000) (hp : p + m < 2147483648) : fX11_sum sh a (yp_N p) (yp_N (p + m)) mm = some (yp_sm R m) := by
  rw [yp_c_sum mm hs p m h hn hp]
  exact congrArg some (yp_sm_congr hR)
set_option maxHeartbeats 1000000 in
theorem yp_h_all (hS : yp_HS sh x) (hH : yp_HC mm x H) (f : Nat) (hf : f < 6) : fX2_allWithin sh x (yp_N f) mm = some (yp_W H f) := by
  have hA := yp_HSx hS
  simp (disch := omega) only [fX2_allWithin, hA, Nat.reduceLeDiff, Nat.reduceLT, Nat.reduceAdd, Nat.reduceMul, Nat.reduceSub, Nat.reduceEqDiff, Nat.le_refl, Nat.lt_irrefl, Nat.zero_add, Nat.add_zero, yp_LT, yp_nA, yp_nM, yp_leN, yp_ltN, yp_eqN, lt1, yp_sb, yp_sb2, if_false, if_true]
  rw [yp_h_sum hS.2.1 (f * 7) 7 (R := fun i => H (f * 7 + i)) (fun k hk => hH.1 _ (by omega)) (by omega) (by omega) (by omega)]
  rfl
set_option maxHeartbeats 1000000 in
theorem yp_h_given (hS : yp_HS sh x) (hH : yp_HC mm x H) (s b : Int32) : fX2_givenBy sh x s b mm = some (yp_GV H s b) := by
  have hA := yp_HSx hS
  simp (disch := omega) only [fX2_givenBy, fX2_givenBy_j41, Nat.reduceLeDiff, Nat.reduceLT, Nat.reduceAdd, Nat.reduceMul, Nat.reduceSub, Nat.reduceEqDiff, Nat.le_refl, Nat.lt_irrefl, Nat.zero_add, Nat.add_zero, yp_LT, yp_nA, yp_nM, yp_leN, yp_ltN, yp_eqN, lt1, yp_sb, yp_sb2, if_false, if_true]
  refine Eq.trans (yp_lpB (fun k a => (a, yp_N k)) (fun k a => if yp_bt s k = yp_N 1 then a + mnI (yp_W H k) b else a) (id) (6) (yp_N 0) (by rw [yp_FUe]; omega) rfl (fun k z hk hz => ?_) (fun z hz => ?_)) ?_
  · simp (disch := omega) only [fX2_givenBy_b5, fX2_givenBy_j35, hA, yp_h_all hS hH k hk, (show (6 ≤ k) = False by simp only [eq_iff_iff, iff_false]; omega), yp_bt, Nat.reduceLeDiff, Nat.reduceLT, Nat.reduceAdd, Nat.reduceMul, Nat.reduceSub, Nat.reduceEqDiff, Nat.le_refl, Nat.lt_irrefl, Nat.zero_add, Nat.add_zero, yp_LT, yp_nA, yp_nM, yp_leN, yp_ltN, yp_eqN, lt1, yp_sb, yp_sb2, if_false, if_true]
    all_goals ((repeat' split) <;> first | rfl | (simp_all [id]; done) | (simp_all [id, Nat.add_assoc]; done) | (simp_all [id] <;> rfl))
  · simp (disch := omega) only [fX2_givenBy_b5, Nat.reduceLeDiff, Nat.reduceLT, Nat.reduceAdd, Nat.reduceMul, Nat.reduceSub, Nat.reduceEqDiff, Nat.le_refl, Nat.lt_irrefl, Nat.zero_add, Nat.add_zero, yp_LT, yp_nA, yp_nM, yp_leN, yp_ltN, yp_eqN, lt1, yp_sb, yp_sb2, if_false, if_true]
    rfl
  · rfl
set_option maxHeartbeats 1000000 in
theorem yp_h_much (hS : yp_HS sh x) (hH : yp_HC mm x H) (s : Int32) : fX2_muchWithin sh x s mm = some (yp_GV H s (yp_N 1680)) := by
  have hA := yp_HSx hS
  simp (disch := omega) only [fX2_muchWithin, hA, yp_h_given hS hH, Nat.reduceLeDiff, Nat.reduceLT, Nat.reduceAdd, Nat.reduceMul, Nat.reduceSub, Nat.reduceEqDiff, Nat.le_refl, Nat.lt_irrefl, Nat.zero_add, Nat.add_zero, yp_LT, yp_nA, yp_nM, yp_leN, yp_ltN, yp_eqN, lt1, yp_sb, yp_sb2, if_false, if_true]
set_option maxHeartbeats 1000000 in
theorem yp_h_spread (hS : yp_HS sh x) (hH : yp_HC mm x H) (s : Int32) : fX2_spreadOf sh x s mm = some ((yp_SP H s).1 - (yp_SP H s).2) := by
  have hA := yp_HSx hS
  simp (disch := omega) only [fX2_spreadOf, Nat.reduceLeDiff, Nat.reduceLT, Nat.reduceAdd, Nat.reduceMul, Nat.reduceSub, Nat.reduceEqDiff, Nat.le_refl, Nat.lt_irrefl, Nat.zero_add, Nat.add_zero, yp_LT, yp_nA, yp_nM, yp_leN, yp_ltN, yp_eqN, lt1, yp_sb, yp_sb2, if_false, if_true]
  refine Eq.trans (yp_lpB (fun k (a : Int32 × Int32) => (a.1, a.2, yp_N k)) (fun c (a : Int32 × Int32) => (mxI a.1 (yp_col H s c 6), mnI a.2 (yp_col H s c 6))) (id) (7) ((yp_N 0, yp_N 1680)) (by rw [yp_FUe]; omega) rfl (fun k z hk hz => ?_) (fun z hz => ?_)) ?_
  · simp (disch := omega) only [fX2_spreadOf_b9, (show (7 ≤ k) = False by simp only [eq_iff_iff, iff_false]; omega), Nat.reduceLeDiff, Nat.reduceLT, Nat.reduceAdd, Nat.reduceMul, Nat.reduceSub, Nat.reduceEqDiff, Nat.le_refl, Nat.lt_irrefl, Nat.zero_add, Nat.add_zero, yp_LT, yp_nA, yp_nM, yp_leN, yp_ltN, yp_eqN, lt1, yp_sb, yp_sb2, if_false, if_true]
    refine Eq.trans (yp_lpB (fun j b => (b, yp_N j)) (fun f b => b + yp_bt s f * H (f * 7 + k)) id 6 (yp_N 0) (by rw [yp_FUe]; omega) rfl (fun j b hj _ => ?_) (fun b _ => ?_)) ?_
    · simp (disch := omega) only [fX2_spreadOf_b22, hA, hH.1, (show (6 ≤ j) = False by simp only [eq_iff_iff, iff_false]; omega), Nat.reduceLeDiff, Nat.reduceLT, Nat.reduceAdd, Nat.reduceMul, Nat.reduceSub, Nat.reduceEqDiff, Nat.le_refl, Nat.lt_irrefl, Nat.zero_add, Nat.add_zero, yp_LT, yp_nA, yp_nM, yp_leN, yp_ltN, yp_eqN, lt1, yp_sb, yp_sb2, if_false, if_true]
      rfl
    · simp (disch := omega) only [fX2_spreadOf_b22, Nat.reduceLeDiff, Nat.reduceLT, Nat.reduceAdd, Nat.reduceMul, Nat.reduceSub, Nat.reduceEqDiff, Nat.le_refl, Nat.lt_irrefl, Nat.zero_add, Nat.add_zero, yp_LT, yp_nA, yp_nM, yp_leN, yp_ltN, yp_eqN, lt1, yp_sb, yp_sb2, if_false, if_true]
      rfl
    · simp (disch := omega) only [fX2_spreadOf_j60, Nat.reduceLeDiff, Nat.reduceLT, Nat.reduceAdd, Nat.reduceMul, Nat.reduceSub, Nat.reduceEqDiff, Nat.le_refl, Nat.lt_irrefl, Nat.zero_add, Nat.add_zero, yp_LT, yp_nA, yp_nM, yp_leN, yp_ltN, yp_eqN, lt1, yp_sb, yp_sb2, if_false, if_true]
      rfl
  · simp (disch := omega) only [fX2_spreadOf_b9, Nat.reduceLeDiff, Nat.reduceLT, Nat.reduceAdd, Nat.reduceMul, Nat.reduceSub, Nat.reduceEqDiff, Nat.le_refl, Nat.lt_irrefl, Nat.zero_add, Nat.add_zero, yp_LT, yp_nA, yp_nM, yp_leN, yp_ltN, yp_eqN, lt1, yp_sb, yp_sb2, if_false, if_true]
    rfl
  · rfl
set_option maxHeartbeats 1000000 in
theorem yp_ck0 : ckZ (yp_N 0) = some (yp_N 0) := rfl
set_option maxHeartbeats 1000000 in
theorem yp_ck1 : ckZ (yp_N 1) = some (yp_N 1) := rfl
set_option maxHeartbeats 1000000 in
theorem yp_h_white (hS : yp_HS sh x) (hH : yp_HC mm x H) (s : Int32) : fX2_isWhite sh x s mm = some (yp_isW H s) := by
  have hA := yp_HSx hS
  simp (disch := omega) only [fX2_isWhite, hA, yp_h_spread hS hH, yp_h_much hS hH, fX2_isWhite_j20, fX2_isWhite_j21, yp_ck0, yp_ck1, yp_isW, Nat.reduceLeDiff, Nat.reduceLT, Nat.reduceAdd, Nat.reduceMul, Nat.reduceSub, Nat.reduceEqDiff, Nat.le_refl, Nat.lt_irrefl, Nat.zero_add, Nat.add_zero, yp_LT, yp_nA, yp_nM, yp_leN, yp_ltN, yp_eqN, lt1, yp_sb, yp_sb2, if_false, if_true]
  split
  · split <;> rfl
  · rfl
set_option maxHeartbeats 1000000 in
theorem yp_h_whites (hS : yp_HS sh x) (hH : yp_HC mm x H) : fX2_whiteBits sh x mm = some (yp_fo (yp_wbG H) 6 (yp_N 0)) := by
  have hA := yp_HSx hS
  simp (disch := omega) only [fX2_whiteBits, fX2_whiteBits_j32, Nat.reduceLeDiff, Nat.reduceLT, Nat.reduceAdd, Nat.reduceMul, Nat.reduceSub, Nat.reduceEqDiff, Nat.le_refl, Nat.lt_irrefl, Nat.zero_add, Nat.add_zero, yp_LT, yp_nA, yp_nM, yp_leN, yp_ltN, yp_eqN, lt1, yp_sb, yp_sb2, if_false, if_true]
  refine Eq.trans (yp_lpB (fun k a => (a, yp_N k)) (yp_wbG H) (id) (6) (yp_N 0) (by rw [yp_FUe]; omega) rfl (fun k z hk hz => ?_) (fun z hz => ?_)) ?_
  · simp (disch := omega) only [fX2_whiteBits_b4, fX2_whiteBits_j26, hA, yp_h_white hS hH, (show (6 ≤ k) = False by simp only [eq_iff_iff, iff_false]; omega), yp_wbG, yp_b1, Nat.reduceLeDiff, Nat.reduceLT, Nat.reduceAdd, Nat.reduceMul, Nat.reduceSub, Nat.reduceEqDiff, Nat.le_refl, Nat.lt_irrefl, Nat.zero_add, Nat.add_zero, yp_LT, yp_nA, yp_nM, yp_leN, yp_ltN, yp_eqN, lt1, yp_sb, yp_sb2, if_false, if_true]
    all_goals ((repeat' split) <;> first | rfl | (simp_all [id]; done) | (simp_all [id, Nat.add_assoc]; done) | (simp_all [id] <;> rfl))
  · simp (disch := omega) only [fX2_whiteBits_b4, Nat.reduceLeDiff, Nat.reduceLT, Nat.reduceAdd, Nat.reduceMul, Nat.reduceSub, Nat.reduceEqDiff, Nat.le_refl, Nat.lt_irrefl, Nat.zero_add, Nat.add_zero, yp_LT, yp_nA, yp_nM, yp_leN, yp_ltN, yp_eqN, lt1, yp_sb, yp_sb2, if_false, if_true]
    rfl
  · rfl
set_option maxHeartbeats 1000000 in
theorem yp_h_dark (hS : yp_HS sh x) (hH : yp_HC mm x H) (f : Nat) (hf : f < 6) : fX2_darkBits sh x (yp_N f) mm = some (yp_fo (yp_dkG H f) 7 (yp_N 0)) := by
  have hA := yp_HSx hS
  simp (disch := omega) only [fX2_darkBits, fX2_darkBits_j50, Nat.reduceLeDiff, Nat.reduceLT, Nat.reduceAdd, Nat.reduceMul, Nat.reduceSub, Nat.reduceEqDiff, Nat.le_refl, Nat.lt_irrefl, Nat.zero_add, Nat.add_zero, yp_LT, yp_nA, yp_nM, yp_leN, yp_ltN, yp_eqN, lt1, yp_sb, yp_sb2, if_false, if_true]
  refine Eq.trans (yp_lpB (fun k a => (a, yp_N k)) (yp_dkG H f) (id) (7) (yp_N 0) (by rw [yp_FUe]; omega) rfl (fun k z hk hz => ?_) (fun z hz => ?_)) ?_
  · simp (disch := omega) only [fX2_darkBits_b4, fX2_darkBits_j44, hA, hH.1, hH.2.1, (show (7 ≤ k) = False by simp only [eq_iff_iff, iff_false]; omega), yp_dkG, yp_b1, Nat.reduceLeDiff, Nat.reduceLT, Nat.reduceAdd, Nat.reduceMul, Nat.reduceSub, Nat.reduceEqDiff, Nat.le_refl, Nat.lt_irrefl, Nat.zero_add, Nat.add_zero, yp_LT, yp_nA, yp_nM, yp_leN, yp_ltN, yp_eqN, lt1, yp_sb, yp_sb2, if_false, if_true]
    all_goals ((repeat' split) <;> first | rfl | (simp_all [id]; done) | (simp_all [id, Nat.add_assoc]; done) | (simp_all [id] <;> rfl))
  · simp (disch := omega) only [fX2_darkBits_b4, Nat.reduceLeDiff, Nat.reduceLT, Nat.reduceAdd, Nat.reduceMul, Nat.reduceSub, Nat.reduceEqDiff, Nat.le_refl, Nat.lt_irrefl, Nat.zero_add, Nat.add_zero, yp_LT, yp_nA, yp_nM, yp_leN, yp_ltN, yp_eqN, lt1, yp_sb, yp_sb2, if_false, if_true]
    rfl
  · rfl
set_option maxHeartbeats 1000000 in
theorem yp_dv7 (k : Nat) (h : k < 42) : dvI (yp_N k) (yp_N 7) = some (yp_N (k / 7)) := by
  have h1 : ∀ k : Fin 42, dvI (yp_N k.val) (yp_N 7) = some (yp_N (k.val / 7)) := by decide +kernel
  exact h1 ⟨k, h⟩
set_option maxHeartbeats 1000000 in
theorem yp_h_lit (hS : yp_HS sh x) (hH : yp_HC mm x H) (n : Int32) : fX2_litBits sh x n mm = some (yp_fo (yp_ltG H n) 42 (yp_N 0)) := by
  have hA := yp_HSx hS
  simp (disch := omega) only [fX2_litBits, fX2_litBits_j35, Nat.reduceLeDiff, Nat.reduceLT, Nat.reduceAdd, Nat.reduceMul, Nat.reduceSub, Nat.reduceEqDiff, Nat.le_refl, Nat.lt_irrefl, Nat.zero_add, Nat.add_zero, yp_LT, yp_nA, yp_nM, yp_leN, yp_ltN, yp_eqN, lt1, yp_sb, yp_sb2, if_false, if_true]
  refine Eq.trans (yp_lpB (fun k a => (a, yp_N k)) (yp_ltG H n) (id) (42) (yp_N 0) (by rw [yp_FUe]; omega) rfl (fun k z hk hz => ?_) (fun z hz => ?_)) ?_
  · simp (disch := omega) only [fX2_litBits_b4, fX2_litBits_j29, hA, hH.2.1, yp_dv7, (show (42 ≤ k) = False by simp only [eq_iff_iff, iff_false]; omega), yp_ltG, yp_b1, Nat.reduceLeDiff, Nat.reduceLT, Nat.reduceAdd, Nat.reduceMul, Nat.reduceSub, Nat.reduceEqDiff, Nat.le_refl, Nat.lt_irrefl, Nat.zero_add, Nat.add_zero, yp_LT, yp_nA, yp_nM, yp_leN, yp_ltN, yp_eqN, lt1, yp_sb, yp_sb2, if_false, if_true]
    all_goals ((repeat' split) <;> first | rfl | (simp_all [id]; done) | (simp_all [id, Nat.add_assoc]; done) | (simp_all [id] <;> rfl))
  · simp (disch := omega) only [fX2_litBits_b4, Nat.reduceLeDiff, Nat.reduceLT, Nat.reduceAdd, Nat.reduceMul, Nat.reduceSub, Nat.reduceEqDiff, Nat.le_refl, Nat.lt_irrefl, Nat.zero_add, Nat.add_zero, yp_LT, yp_nA, yp_nM, yp_leN, yp_ltN, yp_eqN, lt1, yp_sb, yp_sb2, if_false, if_true]
    rfl
  · rfl
set_option maxHeartbeats 1000000 in
theorem yp_h_wallAfter (hS : yp_HS sh x) (hH : yp_HC mm x H) (n : Int32) : fX2_wallAfter sh x n mm = some (yp_sm (fun k => mxI (yp_N 0) (H (42 + k) - n)) 42) := by
  have hA := yp_HSx hS
  simp (disch := omega) only [fX2_wallAfter, fX2_wallAfter_j31, Nat.reduceLeDiff, Nat.reduceLT, Nat.reduceAdd, Nat.reduceMul, Nat.reduceSub, Nat.reduceEqDiff, Nat.le_refl, Nat.lt_irrefl, Nat.zero_add, Nat.add_zero, yp_LT, yp_nA, yp_nM, yp_leN, yp_ltN, yp_eqN, lt1, yp_sb, yp_sb2, if_false, if_true]
  refine Eq.trans (yp_lpB (fun k a => (a, yp_N k)) (fun k a => a + mxI (yp_N 0) (H (42 + k) - n)) (id) (42) (yp_N 0) (by rw [yp_FUe]; omega) rfl (fun k z hk hz => ?_) (fun z hz => ?_)) ?_
  · simp (disch := omega) only [fX2_wallAfter_b4, hA, hH.2.1, (show (42 ≤ k) = False by simp only [eq_iff_iff, iff_false]; omega), Nat.reduceLeDiff, Nat.reduceLT, Nat.reduceAdd, Nat.reduceMul, Nat.reduceSub, Nat.reduceEqDiff, Nat.le_refl, Nat.lt_irrefl, Nat.zero_add, Nat.add_zero, yp_LT, yp_nA, yp_nM, yp_leN, yp_ltN, yp_eqN, lt1, yp_sb, yp_sb2, if_false, if_true]
  · simp (disch := omega) only [fX2_wallAfter_b4, Nat.reduceLeDiff, Nat.reduceLT, Nat.reduceAdd, Nat.reduceMul, Nat.reduceSub, Nat.reduceEqDiff, Nat.le_refl, Nat.lt_irrefl, Nat.zero_add, Nat.add_zero, yp_LT, yp_nA, yp_nM, yp_leN, yp_ltN, yp_eqN, lt1, yp_sb, yp_sb2, if_false, if_true]
    rfl
  · rfl
set_option maxHeartbeats 1000000 in
theorem yp_h_least (hS : yp_HS sh x) (hH : yp_HC mm x H) (f : Nat) (hf : f < 6) : fX2_leastPlace sh x (yp_N f) mm = some (yp_fo (yp_lpG H f) 7 (-yp_N 1)) := by
  have hA := yp_HSx hS
  simp (disch := omega) only [fX2_leastPlace, fX2_leastPlace_j55, Nat.reduceLeDiff, Nat.reduceLT, Nat.reduceAdd, Nat.reduceMul, Nat.reduceSub, Nat.reduceEqDiff, Nat.le_refl, Nat.lt_irrefl, Nat.zero_add, Nat.add_zero, yp_LT, yp_nA, yp_nM, yp_leN, yp_ltN, yp_eqN, lt1, yp_sb, yp_sb2, if_false, if_true]
  refine Eq.trans (yp_lpB (fun k a => (a, yp_N (f * 7 + k))) (yp_lpG H f) (id) (7) (-yp_N 1) (by rw [yp_FUe]; omega) rfl (fun k z hk hz => ?_) (fun z hz => ?_)) ?_
  · simp (disch := omega) only [fX2_leastPlace_b7, fX2_leastPlace_j49, fX2_leastPlace_j42, hA, hH.2.1, hH.2.2.1, (show (f * 7 + 7 ≤ f * 7 + k) = False by simp only [eq_iff_iff, iff_false]; omega), yp_lpG, Nat.reduceLeDiff, Nat.reduceLT, Nat.reduceAdd, Nat.reduceMul, Nat.reduceSub, Nat.reduceEqDiff, Nat.le_refl, Nat.lt_irrefl, Nat.zero_add, Nat.add_zero, yp_LT, yp_nA, yp_nM, yp_leN, yp_ltN, yp_eqN, lt1, yp_sb, yp_sb2, if_false, if_true]
    all_goals ((repeat' split) <;> first | rfl | (simp_all [id]; done) | (simp_all [id, Nat.add_assoc]; done) | (simp_all [id] <;> rfl))
  · simp (disch := omega) only [fX2_leastPlace_b7, (show (f * 7 + 7 ≤ f * 7 + 7) = True by simp only [eq_iff_iff, iff_true]; omega), Nat.reduceLeDiff, Nat.reduceLT, Nat.reduceAdd, Nat.reduceMul, Nat.reduceSub, Nat.reduceEqDiff, Nat.le_refl, Nat.lt_irrefl, Nat.zero_add, Nat.add_zero, yp_LT, yp_nA, yp_nM, yp_leN, yp_ltN, yp_eqN, lt1, yp_sb, yp_sb2, if_false, if_true]
    rfl
  · rfl
set_option maxHeartbeats 1000000 in
theorem yp_h_greatest (hS : yp_HS sh x) (hH : yp_HC mm x H) (f : Nat) (hf : f < 6) : fX2_greatestPlace sh x (yp_N f) mm = some (yp_fo (yp_gpG H f) 7 (-yp_N 1)) := by
  have hA := yp_HSx hS
  simp (disch := omega) only [fX2_greatestPlace, fX2_greatestPlace_j44, Nat.reduceLeDiff, Nat.reduceLT, Nat.reduceAdd, Nat.reduceMul, Nat.reduceSub, Nat.reduceEqDiff, Nat.le_refl, Nat.lt_irrefl, Nat.zero_add, Nat.add_zero, yp_LT, yp_nA, yp_nM, yp_leN, yp_ltN, yp_eqN, lt1, yp_sb, yp_sb2, if_false, if_true]
  refine Eq.trans (yp_lpB (fun k a => (a, yp_N (f * 7 + k))) (yp_gpG H f) (id) (7) (-yp_N 1) (by rw [yp_FUe]; omega) rfl (fun k z hk hz => ?_) (fun z hz => ?_)) ?_
  · simp (disch := omega) only [fX2_greatestPlace_b7, fX2_greatestPlace_j38, hA, hH.2.1, hH.2.2.1, (show (f * 7 + 7 ≤ f * 7 + k) = False by simp only [eq_iff_iff, iff_false]; omega), yp_gpG, Nat.reduceLeDiff, Nat.reduceLT, Nat.reduceAdd, Nat.reduceMul, Nat.reduceSub, Nat.reduceEqDiff, Nat.le_refl, Nat.lt_irrefl, Nat.zero_add, Nat.add_zero, yp_LT, yp_nA, yp_nM, yp_leN, yp_ltN, yp_eqN, lt1, yp_sb, yp_sb2, if_false, if_true]
    all_goals ((repeat' split) <;> first | rfl | (simp_all [id]; done) | (simp_all [id, Nat.add_assoc]; done) | (simp_all [id] <;> rfl))
  · simp (disch := omega) only [fX2_greatestPlace_b7, (show (f * 7 + 7 ≤ f * 7 + 7) = True by simp only [eq_iff_iff, iff_true]; omega), Nat.reduceLeDiff, Nat.reduceLT, Nat.reduceAdd, Nat.reduceMul, Nat.reduceSub, Nat.reduceEqDiff, Nat.le_refl, Nat.lt_irrefl, Nat.zero_add, Nat.add_zero, yp_LT, yp_nA, yp_nM, yp_leN, yp_ltN, yp_eqN, lt1, yp_sb, yp_sb2, if_false, if_true]
    rfl
  · rfl
set_option maxHeartbeats 1000000 in
theorem yp_h_near (hS : yp_HS sh x) (hH : yp_HC mm x H) (p n : Int32) : fX2_muchNear sh x p n mm = some (yp_fo (yp_nrG H p n) 42 (yp_N 0)) := by
  have hA := yp_HSx hS
  simp (disch := omega) only [fX2_muchNear, fX2_muchNear_j44, Nat.reduceLeDiff, Nat.reduceLT, Nat.reduceAdd, Nat.reduceMul, Nat.reduceSub, Nat.reduceEqDiff, Nat.le_refl, Nat.lt_irrefl, Nat.zero_add, Nat.add_zero, yp_LT, yp_nA, yp_nM, yp_leN, yp_ltN, yp_eqN, lt1, yp_sb, yp_sb2, if_false, if_true]
  refine Eq.trans (yp_lpB (fun k a => (a, yp_N k)) (yp_nrG H p n) (id) (42) (yp_N 0) (by rw [yp_FUe]; omega) rfl (fun k z hk hz => ?_) (fun z hz => ?_)) ?_
  · simp (disch := omega) only [fX2_muchNear_b5, fX2_muchNear_j38, hA, hH.2.1, hH.2.2.1, (show (42 ≤ k) = False by simp only [eq_iff_iff, iff_false]; omega), yp_nrG, Nat.reduceLeDiff, Nat.reduceLT, Nat.reduceAdd, Nat.reduceMul, Nat.reduceSub, Nat.reduceEqDiff, Nat.le_refl, Nat.lt_irrefl, Nat.zero_add, Nat.add_zero, yp_LT, yp_nA, yp_nM, yp_leN, yp_ltN, yp_eqN, lt1, yp_sb, yp_sb2, if_false, if_true]
    all_goals ((repeat' split) <;> first | rfl | (simp_all [id]; done) | (simp_all [id, Nat.add_assoc]; done) | (simp_all [id] <;> rfl))
  · simp (disch := omega) only [fX2_muchNear_b5, Nat.reduceLeDiff, Nat.reduceLT, Nat.reduceAdd, Nat.reduceMul, Nat.reduceSub, Nat.reduceEqDiff, Nat.le_refl, Nat.lt_irrefl, Nat.zero_add, Nat.add_zero, yp_LT, yp_nA, yp_nM, yp_leN, yp_ltN, yp_eqN, lt1, yp_sb, yp_sb2, if_false, if_true]
    rfl
  · rfl
set_option maxHeartbeats 1000000 in
theorem yp_h_most (hS : yp_HS sh x) (hH : yp_HC mm x H) (f : Nat) (hf : f < 6) : fX2_mostPart sh x (yp_N f) mm = some (yp_N (yp_fo (yp_mpG H f) 6 0)) := by
  have hA := yp_HSx hS
  simp (disch := omega) only [fX2_mostPart, fX2_mostPart_j43, Nat.reduceLeDiff, Nat.reduceLT, Nat.reduceAdd, Nat.reduceMul, Nat.reduceSub, Nat.reduceEqDiff, Nat.le_refl, Nat.lt_irrefl, Nat.zero_add, Nat.add_zero, yp_LT, yp_nA, yp_nM, yp_leN, yp_ltN, yp_eqN, lt1, yp_sb, yp_sb2, if_false, if_true]
  refine Eq.trans (yp_lpB (fun k a => (yp_N a, yp_N (k + 1))) (yp_mpG H f) (yp_N) (6) (0) (by rw [yp_FUe]; omega) rfl (fun k z hk hz => ?_) (fun z hz => ?_)) ?_
  · have hb := yp_mp_lt H f k (by omega)
    rw [← hz] at hb
    simp (disch := omega) only [fX2_mostPart_b4, fX2_mostPart_j37, hA, hH.1, (show (7 ≤ k + 1) = False by simp only [eq_iff_iff, iff_false]; omega), yp_mpG, Nat.reduceLeDiff, Nat.reduceLT, Nat.reduceAdd, Nat.reduceMul, Nat.reduceSub, Nat.reduceEqDiff, Nat.le_refl, Nat.lt_irrefl, Nat.zero_add, Nat.add_zero, yp_LT, yp_nA, yp_nM, yp_leN, yp_ltN, yp_eqN, lt1, yp_sb, yp_sb2, if_false, if_true]
    all_goals ((repeat' split) <;> first | rfl | (simp_all [id]; done) | (simp_all [id, Nat.add_assoc]; done) | (simp_all [id] <;> rfl))
  · simp (disch := omega) only [fX2_mostPart_b4, (show (7 ≤ 6 + 1) = True by simp only [eq_iff_iff, iff_true]; omega), Nat.reduceLeDiff, Nat.reduceLT, Nat.reduceAdd, Nat.reduceMul, Nat.reduceSub, Nat.reduceEqDiff, Nat.le_refl, Nat.lt_irrefl, Nat.zero_add, Nat.add_zero, yp_LT, yp_nA, yp_nM, yp_leN, yp_ltN, yp_eqN, lt1, yp_sb, yp_sb2, if_false, if_true]
  · rfl
set_option maxHeartbeats 1000000 in
theorem yp_h_blur (hS : yp_HS sh x) (hH : yp_HC mm x H) (f : Nat) (hf : f < 6) : ∃ v, fX2_isBlurred sh x (yp_N f) mm = some v ∧ ((v = yp_N 1 ∧ yp_blur H f) ∨ (v = yp_N 0 ∧ ¬ yp_blur H f)) := by
  have hA := yp_HSx hS
  simp (disch := omega) only [fX2_isBlurred, Nat.reduceLeDiff, Nat.reduceLT, Nat.reduceAdd, Nat.reduceMul, Nat.reduceSub, Nat.reduceEqDiff, Nat.le_refl, Nat.lt_irrefl, Nat.zero_add, Nat.add_zero, yp_LT, yp_nA, yp_nM, yp_leN, yp_ltN, yp_eqN, lt1, yp_sb, yp_sb2, if_false, if_true]
  obtain ⟨v, h1, h2⟩ := yp_lpI (step := fun st : Int32 => fX2_isBlurred_b5 sh x (yp_N f) st mm) (fun k s => s = yp_N (f * 7 + k) ∧ ∀ k' j, k' < k → j < k' → ¬ (yp_N 0 < H (42 + (f * 7 + k')) ∧ yp_N 0 < H (42 + (f * 7 + j)) ∧ H (84 + (f * 7 + k')) = H (84 + (f * 7 + j)))) (fun v => (v = .inl () ∧ yp_blur H f) ∨ (v = .inr () ∧ ¬ yp_blur H f)) 7 (fun k s hk hI => by
    obtain ⟨rfl, hI⟩ := hI
    by_cases hk7 : k = 7
    · subst hk7
      refine .inr ⟨.inr (), ?_, .inr ⟨rfl, ?_⟩⟩
      · simp (disch := omega) only [fX2_isBlurred_b5, (show (f * 7 + 7 ≤ f * 7 + 7) = True by simp only [eq_iff_iff, iff_true]; omega), Nat.reduceLeDiff, Nat.reduceLT, Nat.reduceAdd, Nat.reduceMul, Nat.reduceSub, Nat.reduceEqDiff, Nat.le_refl, Nat.lt_irrefl, Nat.zero_add, Nat.add_zero, yp_LT, yp_nA, yp_nM, yp_leN, yp_ltN, yp_eqN, lt1, yp_sb, yp_sb2, if_false, if_true]
      · rintro ⟨k, j, h1, h2, h3⟩
        exact hI k j h1 h2 h3
    · obtain ⟨v, h1, h2⟩ := yp_lpI (step := fun st : Int32 => fX2_isBlurred_b21 sh x (yp_N f) (yp_N (f * 7 + k)) st mm) (fun j s => s = yp_N (f * 7 + j) ∧ ∀ j', j' < j → ¬ (yp_N 0 < H (42 + (f * 7 + k)) ∧ yp_N 0 < H (42 + (f * 7 + j')) ∧ H (84 + (f * 7 + k)) = H (84 + (f * 7 + j')))) (fun v => (v = .inl () ∧ yp_blur H f) ∨ (v = .inr () ∧ ∀ j', j' < k → ¬ (yp_N 0 < H (42 + (f * 7 + k)) ∧ yp_N 0 < H (42 + (f * 7 + j')) ∧ H (84 + (f * 7 + k)) = H (84 + (f * 7 + j'))))) k (fun j s hj hJ => by
        obtain ⟨rfl, hJ⟩ := hJ
        by_cases hjk : j = k
        · subst hjk
          refine .inr ⟨.inr (), ?_, .inr ⟨rfl, hJ⟩⟩
          simp (disch := omega) only [fX2_isBlurred_b21, (show (f * 7 + j ≤ f * 7 + j) = True by simp only [eq_iff_iff, iff_true]; omega), Nat.reduceLeDiff, Nat.reduceLT, Nat.reduceAdd, Nat.reduceMul, Nat.reduceSub, Nat.reduceEqDiff, Nat.le_refl, Nat.lt_irrefl, Nat.zero_add, Nat.add_zero, yp_LT, yp_nA, yp_nM, yp_leN, yp_ltN, yp_eqN, lt1, yp_sb, yp_sb2, if_false, if_true]
        · by_cases hc : yp_N 0 < H (42 + (f * 7 + k)) ∧ yp_N 0 < H (42 + (f * 7 + j)) ∧ H (84 + (f * 7 + k)) = H (84 + (f * 7 + j))
          · refine .inr ⟨.inl (), ?_, .inl ⟨rfl, k, j, by omega, by omega, hc⟩⟩
            have e1 : (H (42 + (f * 7 + k)) ≤ yp_N 0) = False := by simp only [eq_iff_iff, iff_false, Int32.not_le]; exact hc.1
            have e2 : (H (42 + (f * 7 + j)) ≤ yp_N 0) = False := by simp only [eq_iff_iff, iff_false, Int32.not_le]; exact hc.2.1
            have e3 : (H (84 + (f * 7 + k)) = H (84 + (f * 7 + j))) = True := by simp only [eq_iff_iff, iff_true]; exact hc.2.2
            simp (disch := omega) only [fX2_isBlurred_b21, hA, hH.2.1, hH.2.2.1, (show (f * 7 + k ≤ f * 7 + j) = False by simp only [eq_iff_iff, iff_false]; omega), e1, e2, e3, Nat.reduceLeDiff, Nat.reduceLT, Nat.reduceAdd, Nat.reduceMul, Nat.reduceSub, Nat.reduceEqDiff, Nat.le_refl, Nat.lt_irrefl, Nat.zero_add, Nat.add_zero, yp_LT, yp_nA, yp_nM, yp_leN, yp_ltN, yp_eqN, lt1, yp_sb, yp_sb2, if_false, if_true]
          · refine .inl ⟨by omega, yp_N (f * 7 + (j + 1)), ?_, rfl, fun j' hj' => ?_⟩
            · simp (disch := omega) only [fX2_isBlurred_b21, fX2_isBlurred_j61, hA, hH.2.1, hH.2.2.1, (show (f * 7 + k ≤ f * 7 + j) = False by simp only [eq_iff_iff, iff_false]; omega), Nat.reduceLeDiff, Nat.reduceLT, Nat.reduceAdd, Nat.reduceMul, Nat.reduceSub, Nat.reduceEqDiff, Nat.le_refl, Nat.lt_irrefl, Nat.zero_add, Nat.add_zero, yp_LT, yp_nA, yp_nM, yp_leN, yp_ltN, yp_eqN, lt1, yp_sb, yp_sb2, if_false, if_true]
              split
              · rfl
              · split
                · rfl
                · rename_i g1 g2
                  rw [if_neg (fun e => hc ⟨Int32.not_le.mp g1, Int32.not_le.mp g2, e⟩)]
                  rfl
            · by_cases e : j' = j
              · subst e; exact hc
              · exact hJ j' (by omega)) (show k < FU by rw [yp_FUe]; omega) (s0 := yp_N (f * 7)) ⟨rfl, fun j' hj' => by omega⟩
      have h3 : (f * 7 + 7 ≤ f * 7 + k) = False := by simp only [eq_iff_iff, iff_false]; omega
      rcases h2 with ⟨rfl, h2⟩ | ⟨rfl, h2⟩
      · refine .inr ⟨.inl (), ?_, .inl ⟨rfl, h2⟩⟩
        simp (disch := omega) only [fX2_isBlurred_b5, h3, Nat.reduceLeDiff, Nat.reduceLT, Nat.reduceAdd, Nat.reduceMul, Nat.reduceSub, Nat.reduceEqDiff, Nat.le_refl, Nat.lt_irrefl, Nat.zero_add, Nat.add_zero, yp_LT, yp_nA, yp_nM, yp_leN, yp_ltN, yp_eqN, lt1, yp_sb, yp_sb2, if_false, if_true]
        rw [h1]
        rfl
      · refine .inl ⟨by omega, yp_N (f * 7 + (k + 1)), ?_, rfl, fun k' j h4 h5 => ?_⟩
        · simp (disch := omega) only [fX2_isBlurred_b5, h3, Nat.reduceLeDiff, Nat.reduceLT, Nat.reduceAdd, Nat.reduceMul, Nat.reduceSub, Nat.reduceEqDiff, Nat.le_refl, Nat.lt_irrefl, Nat.zero_add, Nat.add_zero, yp_LT, yp_nA, yp_nM, yp_leN, yp_ltN, yp_eqN, lt1, yp_sb, yp_sb2, if_false, if_true]
          rw [h1]
          simp only [yp_sb, Sum.elim, fX2_isBlurred_j67, lt1, yp_LT, yp_nA]
          rfl
        · by_cases e : k' = k
          · subst e; exact h2 j h5
          · exact hI k' j (by omega) h5) (show 7 < FU by rw [yp_FUe]; omega) (s0 := yp_N (f * 7)) ⟨rfl, fun k' j h => by omega⟩
  rw [h1]
  rcases h2 with ⟨rfl, h2⟩ | ⟨rfl, h2⟩
  · exact ⟨yp_N 1, rfl, .inl ⟨rfl, h2⟩⟩
  · exact ⟨yp_N 0, rfl, .inr ⟨rfl, h2⟩⟩
end HALL

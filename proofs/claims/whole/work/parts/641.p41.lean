set_option maxHeartbeats 1000000 in
theorem yp_lpSim2 {S X T Y : Type} {step : S → Option (S ⊕ X)} {ps : T → Option (T ⊕ Y)} (R : S → T → Prop) (Q : X → Y → Prop) (μ : T → Nat) (h : ∀ s z, R s z → (∃ s' z', step s = some (.inl s') ∧ ps z = some (.inl z') ∧ R s' z' ∧ μ z' < μ z) ∨ (∃ x y, step s = some (.inr x) ∧ ps z = some (.inr y) ∧ Q x y) ∨ (∃ s' x y, step s = some (.inl s') ∧ step s' = some (.inr x) ∧ ps z = some (.inr y) ∧ Q x y)) : ∀ k s z, μ z < k → R s z → ∃ x y, loopN step (k + 1) s = some x ∧ loopN ps (k + 1) z = some y ∧ Q x y := by
  intro k
  induction k with
  | zero => intro s z h1; omega
  | succ k ih =>
    intro s z h1 h2
    rcases h s z h2 with ⟨s', z', e1, e2, e3, e4⟩ | ⟨x, y, e1, e2, e3⟩ | ⟨s', x, y, e1, e4, e2, e3⟩
    · obtain ⟨x, y, g1, g2, g3⟩ := ih s' z' (by omega) e3
      refine ⟨x, y, ?_, ?_, g3⟩
      · unfold loopN; rw [e1]; exact g1
      · unfold loopN; rw [e2]; exact g2
    · refine ⟨x, y, ?_, ?_, e3⟩
      · unfold loopN; rw [e1]; rfl
      · unfold loopN; rw [e2]; rfl
    · refine ⟨x, y, ?_, ?_, e3⟩
      · unfold loopN; rw [e1]
        show loopN step (k + 1) s' = some x
        unfold loopN; rw [e4]; rfl
      · unfold loopN; rw [e2]; rfl
def yp_fa (a b : Nat × Nat) : Nat × Nat := if a.1 = 0 then b else a
def yp_FLk (a : Nat × Nat) : Int32 × Int32 := if a.1 = 0 then (yp_N 0, -yp_N 1) else (yp_N a.1, yp_N a.2)
def yp_sgk (t : Nat → Nat) (n p c : Nat) : Nat := if yp_sk t n p < n ∧ t (yp_sk t n p) = c then 0 else 1
set_option maxHeartbeats 1000000 in
theorem yp_fa0 {a b : Nat × Nat} (h : (yp_fa a b).1 = 0) : a.1 = 0 ∧ b.1 = 0 ∧ yp_fa a b = b := by
  unfold yp_fa at h ⊢
  by_cases e : a.1 = 0
  · rw [if_pos e] at h ⊢; exact ⟨e, h, rfl⟩
  · rw [if_neg e] at h; exact absurd h e
set_option maxHeartbeats 1000000 in
theorem yp_fa1 {a : Nat × Nat} (b : Nat × Nat) (h : a.1 = 0) : yp_fa a b = b := if_pos h
set_option maxHeartbeats 1000000 in
theorem yp_fa2 {a : Nat × Nat} (b : Nat × Nat) (h : ¬ a.1 = 0) : yp_fa a b = a := if_neg h
def yp_fok (a : Nat × Nat) : Prop := a.1 ≤ 3 ∧ a.2 ≤ 600
set_option maxHeartbeats 1000000 in
theorem yp_fa_ok {a b : Nat × Nat} (h1 : yp_fok a) (h2 : yp_fok b) : yp_fok (yp_fa a b) := by
  unfold yp_fa
  split
  · exact h2
  · exact h1
set_option maxHeartbeats 1000000 in
theorem yp_ff_fa {a : Nat × Nat} {k x : Nat} (ha : yp_fok a) (hk : k ≠ 0) : yp_ff (yp_FLk a) k x = yp_FLk (yp_fa a (k, x)) := by
  unfold yp_FLk
  by_cases e : a.1 = 0
  · rw [if_pos e, yp_fa1 _ e, yp_ff0 rfl]
    exact (if_neg hk).symm
  · rw [if_neg e, yp_fa2 _ e, if_neg e]
    exact yp_ffk (by omega) ha.1
set_option maxHeartbeats 1000000 in
theorem yp_FLk_fa {a : Nat × Nat} {b : Nat × Nat} (hk : b.1 = 0) : yp_FLk a = yp_FLk (yp_fa a b) := by
  by_cases e : a.1 = 0
  · rw [yp_fa1 _ e]
    unfold yp_FLk
    rw [if_pos e, if_pos hk]
  · rw [yp_fa2 _ e]
set_option maxHeartbeats 1000000 in
theorem yp_FLk_0 {a : Nat × Nat} (h : a.1 = 0) : yp_FLk a = (yp_N 0, -yp_N 1) := if_pos h
set_option maxHeartbeats 1000000 in
theorem yp_FLk_1 {a : Nat × Nat} (h : ¬ a.1 = 0) : yp_FLk a = (yp_N a.1, yp_N a.2) := if_neg h
section RDC
variable {B : Nat} {m : Mem} {t : Nat → Nat} {n p : Nat}
set_option maxHeartbeats 1000000 in
theorem yp_nKs_ok (h : p ≤ n) (hn : n ≤ 600) (lo hi : Nat) : yp_fok (yp_nK t n lo hi p, yp_sk t n p) := ⟨by have := yp_nK_le t n lo hi p; show yp_nK t n lo hi p ≤ 3; omega, by have := yp_sk_le (t := t) h; show yp_sk t n p ≤ 600; omega⟩
set_option maxHeartbeats 1000000 in
theorem yp_sgk_ok (h : p ≤ n) (hn : n ≤ 600) (c : Nat) : yp_fok (yp_sgk t n p c, yp_sk t n p) := ⟨by show yp_sgk t n p c ≤ 3; unfold yp_sgk; split <;> omega, by have := yp_sk_le (t := t) h; show yp_sk t n p ≤ 600; omega⟩
set_option maxHeartbeats 1000000 in
theorem yp_sgk0 {c : Nat} (h : yp_sgk t n p c = 0) : yp_sk t n p < n ∧ t (yp_sk t n p) = c := by
  unfold yp_sgk at h
  split at h
  · rename_i q; exact q
  · omega
set_option maxHeartbeats 1000000 in
theorem yp_sgk1 {c : Nat} (h : ¬ yp_sgk t n p c = 0) : ¬ (yp_sk t n p < n ∧ t (yp_sk t n p) = c) ∧ yp_sgk t n p c = 1 := by
  unfold yp_sgk at h ⊢
  split at h
  · exact absurd rfl h
  · rename_i q; exact ⟨q, if_neg q⟩
set_option maxHeartbeats 1000000 in
theorem yp_k_num {a : Nat × Nat} (h : yp_CT B m t n p) (hf : yp_FL B m = yp_FLk a) (ha : yp_fok a) (lo hi : Nat) (x2 : Int32) (hx : x2.toInt = (hi : Int) - 1) (hlo : lo ≤ 1000) (hhi : hi ≤ 1000) : ∃ v m', fX8_number (yp_SH B) (B + 1) (yp_N lo) x2 m = some (v, m') ∧ yp_CT B m' t n (yp_nE t n p) ∧ yp_Fr (yp_T35 B) m m' ∧ (yp_nK t n lo hi p = 0 → v = yp_N (yp_nV t n p)) ∧ yp_FL B m' = yp_FLk (yp_fa a (yp_nK t n lo hi p, yp_sk t n p)) := by
  obtain ⟨v, m', e1, e2, e3, e4, e5⟩ := yp_c_num h lo hi x2 hx hlo hhi
  refine ⟨v, m', e1, e2, e3, fun k => (e4 k).1, ?_⟩
  by_cases k : yp_nK t n lo hi p = 0
  · rw [(e4 k).2, hf]; exact yp_FLk_fa k
  · rw [(e5 k).2, hf]; exact yp_ff_fa ha k
set_option maxHeartbeats 1000000 in
theorem yp_k_wan {a : Nat × Nat} (h : yp_CT B m t n p) (hf : yp_FL B m = yp_FLk a) (ha : yp_fok a) (c : Nat) (hc : c < 256) : ∃ v m' q, fX8_wants (yp_SH B) (B + 1) (yp_N c) m = some (v, m') ∧ yp_Fr (yp_T35 B) m m' ∧ yp_CT B m' t n q ∧ (yp_sgk t n p c = 0 → v = yp_N 1 ∧ q = yp_sk t n p + 1) ∧ (¬ yp_sgk t n p c = 0 → v = yp_N 0) ∧ yp_FL B m' = yp_FLk (yp_fa a (yp_sgk t n p c, yp_sk t n p)) := by
  obtain ⟨v, m', e1, e2, e3, e4⟩ := yp_c_wan h c hc
  by_cases k : yp_sgk t n p c = 0
  · obtain ⟨g1, g2, g3⟩ := e3 (yp_sgk0 k)
    exact ⟨v, m', _, e1, e2, g2, fun _ => ⟨g1, rfl⟩, fun q => absurd k q, by rw [g3, hf]; exact yp_FLk_fa k⟩
  · obtain ⟨g1, g2, g3⟩ := e4 (yp_sgk1 k).1
    refine ⟨v, m', _, e1, e2, g2, fun q => absurd q k, fun _ => g1, ?_⟩
    rw [g3, hf, (yp_sgk1 k).2]
    exact yp_ff_fa ha (by decide)
def yp_RS (B : Nat) (m : Mem) (a : Nat × Nat) : Prop := yp_fok a ∧ ((a.1 = 0 ∧ m (B + 517) 5 = -yp_N 1) ∨ (a.1 ≠ 0 ∧ m (B + 517) 5 = yp_N a.2 ∧ m (B + 517) 6 = yp_N a.1))
set_option maxHeartbeats 1000000 in
theorem yp_RS.fine {a : Nat × Nat} (h : yp_RS B m a) (h0 : a.1 = 0) : m (B + 517) 5 = -yp_N 1 := by
  rcases h.2 with q | q
  · exact q.2
  · exact absurd h0 q.1
set_option maxHeartbeats 1000000 in
theorem yp_RS.bad {a : Nat × Nat} (h : yp_RS B m a) (h0 : ¬ a.1 = 0) : ¬ m (B + 517) 5 = -yp_N 1 := by
  rcases h.2 with q | q
  · exact absurd q.1 h0
  · rw [q.2.1]; exact yp_nM1 (by have := h.1.2; omega)
set_option maxHeartbeats 1000000 in
theorem yp_RS.fr {a : Nat × Nat} {m' : Mem} (h : yp_RS B m a) (hf : ∀ j, j = 5 ∨ j = 6 → m' (B + 517) j = m (B + 517) j) : yp_RS B m' a :=
  ⟨h.1, by rw [hf 5 (by omega), hf 6 (by omega)]; exact h.2⟩
set_option maxHeartbeats 1000000 in
theorem yp_r_num {a : Nat × Nat} (hr : yp_RS B m a) (h : a.1 = 0 → yp_RT B m t n p) (hp : p ≤ n) (hn : n ≤ 600) (lo hi : Nat) (x2 : Int32) (hx : x2.toInt = (hi : Int) - 1) (hlo : lo ≤ 1000) (hhi : hi ≤ 1000) : ∃ v m', fX12_readNumber (yp_SH B) (B + 517) (yp_N lo) x2 m = some (v, m') ∧ yp_Fr (yp_T46 B) m m' ∧ yp_RS B m' (yp_fa a (yp_nK t n lo hi p, yp_sk t n p)) ∧ ((yp_fa a (yp_nK t n lo hi p, yp_sk t n p)).1 = 0 → yp_RT B m' t n (yp_nE t n p) ∧ v = yp_N (yp_nV t n p)) := by
  by_cases e : a.1 = 0
  · obtain ⟨v, m', e1, e2, e3, e4, e5⟩ := yp_m_num (h e) (hr.fine e) lo hi x2 hx hlo hhi
    refine ⟨v, m', e1, e3, ?_, ?_⟩
    · rw [yp_fa1 _ e]
      refine ⟨yp_nKs_ok hp hn lo hi, ?_⟩
      by_cases k : yp_nK t n lo hi p = 0
      · exact .inl ⟨k, (e4 k).2⟩
      · exact .inr ⟨k, e5 k⟩
    · intro q
      rw [yp_fa1 _ e] at q
      exact ⟨e2, (e4 q).1⟩
  · refine ⟨_, m, yp_m_numX (hr.bad e) _ _, yp_Fr.rf, by rw [yp_fa2 _ e]; exact hr, fun q => ?_⟩
    rw [yp_fa2 _ e] at q
    exact absurd q e
set_option maxHeartbeats 1000000 in
theorem yp_r_sg {a : Nat × Nat} (hr : yp_RS B m a) (h : a.1 = 0 → yp_RT B m t n p) (hp : p ≤ n) (hn : n ≤ 600) (c : Nat) (hc1 : 1 ≤ c) (hc : c < 256) : ∃ m', fX12_sign (yp_SH B) (B + 517) (yp_N c) m = some m' ∧ yp_Fr (yp_T46 B) m m' ∧ yp_RS B m' (yp_fa a (yp_sgk t n p c, yp_sk t n p)) ∧ ((yp_fa a (yp_sgk t n p c, yp_sk t n p)).1 = 0 → yp_RT B m' t n (yp_sk t n p + 1)) := by
  by_cases e : a.1 = 0
  · obtain ⟨m', e1, e2, e3, e4⟩ := yp_m_sg (h e) (hr.fine e) c hc1 hc
    refine ⟨m', e1, e2, ?_, ?_⟩
    · rw [yp_fa1 _ e]
      refine ⟨yp_sgk_ok hp hn c, ?_⟩
      by_cases k : yp_sgk t n p c = 0
      · exact .inl ⟨k, (e3 (yp_sgk0 k)).2⟩
      · refine .inr ⟨k, (e4 (yp_sgk1 k).1).2.1, ?_⟩
        show m' (B + 517) 6 = yp_N (yp_sgk t n p c)
        rw [(yp_sgk1 k).2]
        exact (e4 (yp_sgk1 k).1).2.2
    · intro q
      rw [yp_fa1 _ e] at q
      exact (e3 (yp_sgk0 q)).1
  · refine ⟨m, yp_m_signX (hr.bad e) _, yp_Fr.rf, by rw [yp_fa2 _ e]; exact hr, fun q => ?_⟩
    rw [yp_fa2 _ e] at q
    exact absurd q e
end RDC
abbrev yp_ClT : Type := Nat × Nat × (Nat × Nat × Nat) × (Nat → Nat) × (Nat → Nat × Nat)
def yp_pk (t : Nat → Nat) (n e i : Nat) : Nat := yp_fo (fun _ p => yp_nE t n p) i e
def yp_fk (t : Nat → Nat) (n e i : Nat) : Nat × Nat := yp_fo (fun i a => yp_fa a (yp_nK t n 0 41 (yp_pk t n e i), yp_sk t n (yp_pk t n e i))) i (0, 0)
set_option maxHeartbeats 1000000 in
theorem yp_pk_s (t : Nat → Nat) (n e i : Nat) : yp_pk t n e (i + 1) = yp_nE t n (yp_pk t n e i) := rfl
set_option maxHeartbeats 1000000 in
theorem yp_fk_s (t : Nat → Nat) (n e i : Nat) : yp_fk t n e (i + 1) = yp_fa (yp_fk t n e i) (yp_nK t n 0 41 (yp_pk t n e i), yp_sk t n (yp_pk t n e i)) := rfl
def yp_clB (t : Nat → Nat) (n : Nat) (z : yp_ClT) (j e : Nat) : (Nat × Nat) × Nat × ((Nat × Nat × Nat) × (Nat → Nat) × (Nat → Nat × Nat)) :=
  if j = 0 then (yp_fk t n e 7, yp_pk t n e 7, (z.2.2.1.1 + 1, z.2.2.1.2), (fun l => if z.2.2.1.1 * 7 ≤ l ∧ l < z.2.2.1.1 * 7 + 7 then yp_nV t n (yp_pk t n e (l - z.2.2.1.1 * 7)) else z.2.2.2.1 l), z.2.2.2.2)
  else if j = 1 then (yp_fa (yp_nK t n 1 10 e, yp_sk t n e) (yp_nK t n 0 2 (yp_nE t n e), yp_sk t n (yp_nE t n e)), yp_nE t n (yp_nE t n e), (z.2.2.1.1, z.2.2.1.2.1 + 1, z.2.2.1.2.2), z.2.2.2.1, fun g => if g = z.2.2.1.2.1 then (yp_nV t n e, yp_nV t n (yp_nE t n e)) else z.2.2.2.2 g)
  else ((yp_nK t n 10 100 e, yp_sk t n e), yp_nE t n e, (z.2.2.1.1, z.2.2.1.2.1, yp_nV t n e), z.2.2.2.1, z.2.2.2.2)
def yp_clF (t : Nat → Nat) (n : Nat) (z : yp_ClT) (j e : Nat) : Nat × Nat := yp_fa (yp_clB t n z j e).1 (yp_sgk t n (yp_clB t n z j e).2.1 59, yp_sk t n (yp_clB t n z j e).2.1)
set_option maxHeartbeats 1000000 in
theorem yp_clB0 (t : Nat → Nat) (n : Nat) (z : yp_ClT) (e : Nat) : yp_clB t n z 0 e = (yp_fk t n e 7, yp_pk t n e 7, (z.2.2.1.1 + 1, z.2.2.1.2), (fun l => if z.2.2.1.1 * 7 ≤ l ∧ l < z.2.2.1.1 * 7 + 7 then yp_nV t n (yp_pk t n e (l - z.2.2.1.1 * 7)) else z.2.2.2.1 l), z.2.2.2.2) := if_pos rfl
set_option maxHeartbeats 1000000 in
theorem yp_clB1 (t : Nat → Nat) (n : Nat) (z : yp_ClT) (e : Nat) : yp_clB t n z 1 e = (yp_fa (yp_nK t n 1 10 e, yp_sk t n e) (yp_nK t n 0 2 (yp_nE t n e), yp_sk t n (yp_nE t n e)), yp_nE t n (yp_nE t n e), (z.2.2.1.1, z.2.2.1.2.1 + 1, z.2.2.1.2.2), z.2.2.2.1, fun g => if g = z.2.2.1.2.1 then (yp_nV t n e, yp_nV t n (yp_nE t n e)) else z.2.2.2.2 g) := (if_neg (by decide)).trans (if_pos rfl)
set_option maxHeartbeats 1000000 in
theorem yp_clB2 (t : Nat → Nat) (n : Nat) (z : yp_ClT) (e : Nat) : yp_clB t n z 2 e = ((yp_nK t n 10 100 e, yp_sk t n e), yp_nE t n e, (z.2.2.1.1, z.2.2.1.2.1, yp_nV t n e), z.2.2.2.1, z.2.2.2.2) := (if_neg (by decide)).trans (if_neg (by decide))
set_option maxHeartbeats 1000000 in
theorem yp_clF0 (t : Nat → Nat) (n : Nat) (z : yp_ClT) (e : Nat) : yp_clF t n z 0 e = yp_fa (yp_fk t n e 7) (yp_sgk t n (yp_pk t n e 7) 59, yp_sk t n (yp_pk t n e 7)) := by unfold yp_clF; simp only [yp_clB0]
set_option maxHeartbeats 1000000 in
theorem yp_clF1 (t : Nat → Nat) (n : Nat) (z : yp_ClT) (e : Nat) : yp_clF t n z 1 e = yp_fa (yp_fa (yp_nK t n 1 10 e, yp_sk t n e) (yp_nK t n 0 2 (yp_nE t n e), yp_sk t n (yp_nE t n e))) (yp_sgk t n (yp_nE t n (yp_nE t n e)) 59, yp_sk t n (yp_nE t n (yp_nE t n e))) := by unfold yp_clF; simp only [yp_clB1]
set_option maxHeartbeats 1000000 in
theorem yp_clF2 (t : Nat → Nat) (n : Nat) (z : yp_ClT) (e : Nat) : yp_clF t n z 2 e = yp_fa (yp_nK t n 10 100 e, yp_sk t n e) (yp_sgk t n (yp_nE t n e) 59, yp_sk t n (yp_nE t n e)) := by unfold yp_clF; simp only [yp_clB2]
def yp_clG (t : Nat → Nat) (n : Nat) (z : yp_ClT) : Nat × Nat := if yp_widx yp_C1 (yp_wC t n z.1) = 3 then (1, yp_sk t n z.1) else if z.2.1 = 60 ∨ (yp_widx yp_C1 (yp_wC t n z.1) = 0 ∧ z.2.2.1.1 = 6) ∨ (yp_widx yp_C1 (yp_wC t n z.1) = 1 ∧ z.2.2.1.2.1 = 8) then (3, yp_sk t n z.1) else yp_clF t n z (yp_widx yp_C1 (yp_wC t n z.1)) (yp_wE t n z.1)
def yp_clN (t : Nat → Nat) (n : Nat) (z : yp_ClT) : yp_ClT := (yp_sk t n (yp_clB t n z (yp_widx yp_C1 (yp_wC t n z.1)) (yp_wE t n z.1)).2.1 + 1, z.2.1 + 1, (yp_clB t n z (yp_widx yp_C1 (yp_wC t n z.1)) (yp_wE t n z.1)).2.2)
def yp_clS (t : Nat → Nat) (n : Nat) (z : yp_ClT) : yp_ClT ⊕ (Nat × Nat × yp_ClT) := if yp_sk t n z.1 < n then (if (yp_clG t n z).1 = 0 then .inl (yp_clN t n z) else .inr ((yp_clG t n z).1, (yp_clG t n z).2, z)) else .inr (0, 0, z)
def yp_clI (z : yp_ClT) : Prop := z.2.1 ≤ 60 ∧ z.2.2.1.1 ≤ 6 ∧ z.2.2.1.2.1 ≤ 8 ∧ 10 ≤ z.2.2.1.2.2 ∧ z.2.2.1.2.2 ≤ 99 ∧ (∀ l, z.2.2.2.1 l ≤ 40) ∧ (∀ l, z.2.2.1.1 * 7 ≤ l → z.2.2.2.1 l = 0) ∧ (∀ g, g < z.2.2.1.2.1 → (z.2.2.2.2 g).2 ≤ 1)
set_option maxHeartbeats 1000000 in
theorem yp_pk_le {t : Nat → Nat} {n e : Nat} (h : e ≤ n) (i : Nat) : yp_pk t n e i ≤ n := by
  induction i with
  | zero => exact h
  | succ i ih => rw [yp_pk_s]; exact yp_nE_le (t := t) ih
set_option maxHeartbeats 1000000 in
theorem yp_pk_ge (t : Nat → Nat) (n e i : Nat) : e ≤ yp_pk t n e i := by
  induction i with
  | zero => exact Nat.le_refl e
  | succ i ih =>
    rw [yp_pk_s]
    have := yp_sk_ge t n (yp_pk t n e i)
    have := yp_nE_ge t n (yp_pk t n e i)
    omega
set_option maxHeartbeats 1000000 in
theorem yp_fk_ok {t : Nat → Nat} {n e : Nat} (h : e ≤ n) (hn : n ≤ 600) (i : Nat) : yp_fok (yp_fk t n e i) := by
  induction i with
  | zero => exact ⟨Nat.zero_le 3, Nat.zero_le 600⟩
  | succ i ih => rw [yp_fk_s]; exact yp_fa_ok ih (yp_nKs_ok (yp_pk_le h i) hn _ _)
set_option maxHeartbeats 1000000 in
theorem yp_fk_0 {t : Nat → Nat} {n e : Nat} : ∀ i, (yp_fk t n e i).1 = 0 → ∀ k, k < i → yp_nK t n 0 41 (yp_pk t n e k) = 0 := by
  intro i
  induction i with
  | zero => intro _ k hk; omega
  | succ i ih =>
    intro h k hk
    rw [yp_fk_s] at h
    obtain ⟨h1, h2, _⟩ := yp_fa0 h
    by_cases e : k = i
    · rw [e]; exact h2
    · exact ih h1 k (by omega)
set_option maxHeartbeats 1000000 in
theorem yp_clB_le {t : Nat → Nat} {n : Nat} {z : yp_ClT} {j e : Nat} (h : e ≤ n) (hn : n ≤ 600) : (yp_clB t n z j e).2.1 ≤ n ∧ e ≤ (yp_clB t n z j e).2.1 ∧ yp_fok (yp_clB t n z j e).1 := by
  have a := yp_sk_ge t n e
  have b := yp_nE_ge t n e
  have c := yp_nE_le (t := t) h
  have d := yp_nE_le (t := t) c
  have f := yp_sk_ge t n (yp_nE t n e)
  have g := yp_nE_ge t n (yp_nE t n e)
  unfold yp_clB
  by_cases j0 : j = 0
  · rw [if_pos j0]
    dsimp only
    exact ⟨yp_pk_le h 7, yp_pk_ge t n e 7, yp_fk_ok h hn 7⟩
  · rw [if_neg j0]
    by_cases j1 : j = 1
    · rw [if_pos j1]
      dsimp only
      exact ⟨d, by omega, yp_fa_ok (yp_nKs_ok h hn _ _) (yp_nKs_ok c hn _ _)⟩
    · rw [if_neg j1]
      dsimp only
      exact ⟨c, by omega, yp_nKs_ok h hn _ _⟩
set_option maxHeartbeats 1000000 in
theorem yp_clG_0 {t : Nat → Nat} {n : Nat} {z : yp_ClT} (h : (yp_clG t n z).1 = 0) : yp_widx yp_C1 (yp_wC t n z.1) ≠ 3 ∧ ¬ (z.2.1 = 60 ∨ (yp_widx yp_C1 (yp_wC t n z.1) = 0 ∧ z.2.2.1.1 = 6) ∨ (yp_widx yp_C1 (yp_wC t n z.1) = 1 ∧ z.2.2.1.2.1 = 8)) ∧ (yp_clF t n z (yp_widx yp_C1 (yp_wC t n z.1)) (yp_wE t n z.1)).1 = 0 := by
  unfold yp_clG at h
  by_cases h1 : yp_widx yp_C1 (yp_wC t n z.1) = 3
  · rw [if_pos h1] at h; exact absurd h (show ¬ (1 : Nat) = 0 by decide)
  · rw [if_neg h1] at h
    by_cases h2 : z.2.1 = 60 ∨ (yp_widx yp_C1 (yp_wC t n z.1) = 0 ∧ z.2.2.1.1 = 6) ∨ (yp_widx yp_C1 (yp_wC t n z.1) = 1 ∧ z.2.2.1.2.1 = 8)
    · rw [if_pos h2] at h; exact absurd h (show ¬ (3 : Nat) = 0 by decide)
    · rw [if_neg h2] at h; exact ⟨h1, h2, h⟩
set_option maxHeartbeats 1000000 in
theorem yp_clG_ok {t : Nat → Nat} {n : Nat} {z : yp_ClT} (h : z.1 ≤ n) (hn : n ≤ 600) : yp_fok (yp_clG t n z) := by
  have a := yp_sk_le (t := t) h
  unfold yp_clG
  split
  · exact ⟨(show 1 ≤ 3 by decide), by show yp_sk t n z.1 ≤ 600; omega⟩
  · split
    · exact ⟨(show 3 ≤ 3 by decide), by show yp_sk t n z.1 ≤ 600; omega⟩
    · have b := yp_clB_le (t := t) (n := n) (z := z) (j := yp_widx yp_C1 (yp_wC t n z.1)) (yp_wE_le (t := t) h) hn
      exact yp_fa_ok b.2.2 (yp_sgk_ok b.1 hn _)
set_option maxHeartbeats 1000000 in
theorem yp_clN_I {t : Nat → Nat} {n : Nat} {z : yp_ClT} (hI : yp_clI z) (h : (yp_clG t n z).1 = 0) : yp_clI (yp_clN t n z) := by
  obtain ⟨h1, h2, h3⟩ := yp_clG_0 h
  obtain ⟨i1, i2, i3, i4, i5, i6, i7, i8⟩ := hI
  obtain ⟨f1, f2, _⟩ := yp_fa0 h3
  unfold yp_clN
  unfold yp_clB at f1 ⊢
  by_cases j0 : yp_widx yp_C1 (yp_wC t n z.1) = 0
  · rw [if_pos j0] at f1 ⊢
    refine ⟨by show z.2.1 + 1 ≤ 60; omega, by show z.2.2.1.1 + 1 ≤ 6; omega, i3, i4, i5, fun l => ?_, fun l hl => ?_, i8⟩
    · show (if z.2.2.1.1 * 7 ≤ l ∧ l < z.2.2.1.1 * 7 + 7 then yp_nV t n (yp_pk t n (yp_wE t n z.1) (l - z.2.2.1.1 * 7)) else z.2.2.2.1 l) ≤ 40
      split
      · have := (yp_nK_0 (yp_fk_0 7 f1 (l - z.2.2.1.1 * 7) (by omega))).2.2
        omega
      · exact i6 l
    · have hl : (z.2.2.1.1 + 1) * 7 ≤ l := hl
      show (if z.2.2.1.1 * 7 ≤ l ∧ l < z.2.2.1.1 * 7 + 7 then yp_nV t n (yp_pk t n (yp_wE t n z.1) (l - z.2.2.1.1 * 7)) else z.2.2.2.1 l) = 0
      rw [if_neg (by omega)]
      exact i7 l (by omega)
  · rw [if_neg j0] at f1 ⊢
    by_cases j1 : yp_widx yp_C1 (yp_wC t n z.1) = 1
    · rw [if_pos j1] at f1 ⊢
      refine ⟨by show z.2.1 + 1 ≤ 60; omega, i2, by show z.2.2.1.2.1 + 1 ≤ 8; omega, i4, i5, i6, i7, fun g hg => ?_⟩
      have hg : g < z.2.2.1.2.1 + 1 := hg
      show ((if g = z.2.2.1.2.1 then (yp_nV t n (yp_wE t n z.1), yp_nV t n (yp_nE t n (yp_wE t n z.1))) else z.2.2.2.2 g) : Nat × Nat).2 ≤ 1
      by_cases e : g = z.2.2.1.2.1
      · rw [if_pos e]
        have := (yp_nK_0 (yp_fa0 f1).2.1).2.2
        show yp_nV t n (yp_nE t n (yp_wE t n z.1)) ≤ 1
        omega
      · rw [if_neg e]; exact i8 g (by omega)
    · rw [if_neg j1] at f1 ⊢
      have q := yp_nK_0 f1
      exact ⟨by show z.2.1 + 1 ≤ 60; omega, i2, i3, q.2.1, by show yp_nV t n (yp_wE t n z.1) ≤ 99; omega, i6, i7, i8⟩
section CLGC
variable {B : Nat} {m : Mem} {t : Nat → Nat} {n p : Nat}
def yp_TCl (B : Nat) : Nat → Nat → Prop := fun a j => (a = B + 1 ∧ (j = 3 ∨ j = 4 ∨ j = 5)) ∨ (a = B + 7 ∧ (j = 3 ∨ j = 4 ∨ j = 5)) ∨ a = B + 8 ∨ a = B + 9 ∨ a = B + 10
def yp_clC (B : Nat) (m : Mem) (d : (Nat × Nat × Nat) × (Nat → Nat) × (Nat → Nat × Nat)) : Prop := m (B + 7) 3 = yp_N d.1.1 ∧ m (B + 7) 4 = yp_N d.1.2.1 ∧ m (B + 7) 5 = yp_N d.1.2.2 ∧ (∀ l, l < 42 → m (B + 8) l = yp_N (d.2.1 l)) ∧ (∀ g, g < d.1.2.1 → m (B + 9) g = yp_N (d.2.2 g).1 ∧ m (B + 10) g = yp_N (d.2.2 g).2)
set_option maxHeartbeats 1000000 in
theorem yp_clC.fr {m' : Mem} {d : (Nat × Nat × Nat) × (Nat → Nat) × (Nat → Nat × Nat)} (h : yp_clC B m d) (hf : ∀ a j, (a = B + 7 ∧ (j = 3 ∨ j = 4 ∨ j = 5)) ∨ a = B + 8 ∨ a = B + 9 ∨ a = B + 10 → m' a j = m a j) : yp_clC B m' d :=
  ⟨(hf _ _ (by omega)).trans h.1, (hf _ _ (by omega)).trans h.2.1, (hf _ _ (by omega)).trans h.2.2.1, fun l hl => (hf _ _ (by omega)).trans (h.2.2.2.1 l hl), fun g hg => ⟨(hf _ _ (by omega)).trans (h.2.2.2.2 g hg).1, (hf _ _ (by omega)).trans (h.2.2.2.2 g hg).2⟩⟩
set_option maxHeartbeats 1000000 in
theorem yp_cspS (B : Nat) : rR (yp_SH B) 1 (B + 7) 0 = some (B + 8) ∧ rR (yp_SH B) 1 (B + 7) 1 = some (B + 9) ∧ rR (yp_SH B) 1 (B + 7) 2 = some (B + 10) ∧ isO (yp_SH B) 1 (B + 7) = some () ∧ (∀ mm k, rI (yp_SH B) mm 1 (B + 7) k = some (mm (B + 7) k)) ∧ (∀ mm k v, wI (yp_SH B) mm 1 (B + 7) k v = some (up2 mm (B + 7) k v)) ∧ (∀ mm k v, k < 42 → aS (yp_SH B) mm (B + 8) (yp_N k) v = some (up2 mm (B + 8) k v)) ∧ (∀ mm k v, k < 8 → aS (yp_SH B) mm (B + 9) (yp_N k) v = some (up2 mm (B + 9) k v)) ∧ (∀ mm k v, k < 8 → aS (yp_SH B) mm (B + 10) (yp_N k) v = some (up2 mm (B + 10) k v)) := by
  refine ⟨?_, ?_, ?_, ?_, ?_, ?_, fun mm k v h => yp_aSN (yp_sa8 B) mm k v h (by omega), fun mm k v h => yp_aSN (yp_sa9 B) mm k v h (by omega), fun mm k v h => yp_aSN (yp_sa10 B) mm k v h (by omega)⟩
  · rw [rR, yp_so7]; rfl
  · rw [rR, yp_so7]; rfl
  · rw [rR, yp_so7]; rfl
  · rw [isO, yp_so7]; rfl
  · intro mm k; rw [rI, yp_so7]; rfl
  · intro mm k v; rw [wI, yp_so7]; rfl
set_option maxHeartbeats 1000000 in
theorem yp_T35_cl {m' : Mem} (h : yp_Fr (yp_T35 B) m m') : yp_Fr (yp_TCl B) m m' := h.mono (fun a j q => by unfold yp_T35 at q; unfold yp_TCl; omega)
set_option maxHeartbeats 1000000 in
theorem yp_c_rdF (h : yp_CT B m t n p) (hf : yp_FL B m = (yp_N 0, -yp_N 1)) (nf : Nat) (hnf : nf < 6) (h3 : m (B + 7) 3 = yp_N nf) : ∃ m', fX1_readFellow (yp_SH B) (B + 7) (B + 1) m = some m' ∧ yp_Fr (yp_TCl B) m m' ∧ (∀ a j, ¬ (a = B + 1) → ¬ (a = B + 8) → ¬ (a = B + 7 ∧ j = 3) → m' a j = m a j) ∧ yp_CT B m' t n (yp_pk t n p 7) ∧ yp_FL B m' = yp_FLk (yp_fk t n p 7) ∧ m' (B + 7) 3 = yp_N (nf + 1) ∧ ((yp_fk t n p 7).1 = 0 → ∀ l, l < 42 → m' (B + 8) l = if nf * 7 ≤ l ∧ l < nf * 7 + 7 then yp_N (yp_nV t n (yp_pk t n p (l - nf * 7))) else m (B + 8) l) := by
  have hT := yp_tapS B
  have hS := yp_cspS B
  have hpn := h.2.2.1
  have hn := h.2.1
  obtain ⟨m', e1, e2, e3, e4, e5⟩ := yp_lpI (step := fun st : Int32 × Mem => fX1_readFellow_b2 (yp_SH B) (B + 7) (B + 1) st.1 st.2) (fun k st => ∃ m1, st = (yp_N k, m1) ∧ (∀ a j, ¬ (a = B + 1 ∧ (j = 3 ∨ j = 4 ∨ j = 5)) → ¬ (a = B + 8) → m1 a j = m a j) ∧ yp_CT B m1 t n (yp_pk t n p k) ∧ yp_FL B m1 = yp_FLk (yp_fk t n p k) ∧ ((yp_fk t n p k).1 = 0 → ∀ l, l < 42 → m1 (B + 8) l = if nf * 7 ≤ l ∧ l < nf * 7 + k then yp_N (yp_nV t n (yp_pk t n p (l - nf * 7))) else m (B + 8) l)) (fun m1 => (∀ a j, ¬ (a = B + 1 ∧ (j = 3 ∨ j = 4 ∨ j = 5)) → ¬ (a = B + 8) → m1 a j = m a j) ∧ yp_CT B m1 t n (yp_pk t n p 7) ∧ yp_FL B m1 = yp_FLk (yp_fk t n p 7) ∧ ((yp_fk t n p 7).1 = 0 → ∀ l, l < 42 → m1 (B + 8) l = if nf * 7 ≤ l ∧ l < nf * 7 + 7 then yp_N (yp_nV t n (yp_pk t n p (l - nf * 7))) else m (B + 8) l)) 7 (fun k st hk hJ => by
    obtain ⟨m1, rfl, j1, j2, j3, j4⟩ := hJ
    by_cases e : k = 7
    · subst e
      exact .inr ⟨m1, by simp (disch := omega) only [fX1_readFellow_b2, Nat.reduceAdd, Nat.reduceMul, Nat.reduceSub, Nat.zero_add, Nat.add_zero, yp_LT, yp_nA, yp_nM, yp_ltF, yp_ltT, yp_leF, yp_leT, yp_eqF, eq_self, yp_eqM, yp_lt1N, yp_sbN, yp_sb2N, ↓reduceIte, ↓yp_iP11, ↓yp_iP12, ↓yp_m0P], j1, j2, j3, j4⟩
    · have yp_b1 : m1 (B + 7) 3 = yp_N nf := (j1 _ _ (by omega) (by omega)).trans h3
      obtain ⟨v, m2, a1, a2, a3, a4, a5⟩ := yp_k_num j2 j3 (yp_fk_ok hpn hn k) 0 41 (yp_N 40) (by rw [yp_tiN (by omega)]; omega) (by omega) (by omega)
      refine .inl ⟨by omega, (yp_N (k + 1), up2 m2 (B + 8) (nf * 7 + k) v), ?_, _, rfl, fun a j q1 q2 => ?_, ?_, ?_, fun q l hl => ?_⟩
      · simp (disch := omega) only [fX1_readFellow_b2, hT, hS, yp_b1, a1, Nat.reduceAdd, Nat.reduceMul, Nat.reduceSub, Nat.zero_add, Nat.add_zero, yp_LT, yp_nA, yp_nM, yp_ltF, yp_ltT, yp_leF, yp_leT, yp_eqF, eq_self, yp_eqM, yp_lt1N, yp_sbN, yp_sb2N, ↓reduceIte, ↓yp_iP11, ↓yp_iP12, ↓yp_m0P]
      · rw [yp_up2_n _ _ (by omega), a3 a j (by unfold yp_T35; omega)]
        exact j1 a j q1 q2
      · rw [yp_pk_s]
        exact a2.fr (fun a j q => yp_up2_n _ _ (by omega))
      · rw [yp_fk_s, ← a5]
        exact yp_FL_fr (fun j q => yp_up2_n _ _ (by omega))
      · rw [yp_fk_s] at q
        obtain ⟨q1, q2, q3⟩ := yp_fa0 q
        by_cases e2 : l = nf * 7 + k
        · rw [e2, yp_up2_s, if_pos (by omega), a4 q2, show nf * 7 + k - nf * 7 = k by omega]
        · rw [yp_up2_n _ _ (by omega), a3 _ _ (by unfold yp_T35; omega), j4 q1 l hl]
          by_cases e3 : nf * 7 ≤ l ∧ l < nf * 7 + k
          · rw [if_pos e3, if_pos (by omega)]
          · rw [if_neg e3, if_neg (by omega)]) (show 7 < FU by rw [yp_FUe]; omega) (s0 := (yp_N 0, m)) ⟨m, rfl, fun _ _ _ _ => rfl, h, by rw [hf]; rfl, fun _ l hl => by rw [if_neg (by omega)]⟩
  have yp_b1 : m' (B + 7) 3 = yp_N nf := (e2 _ _ (by omega) (by omega)).trans h3
  refine ⟨up2 m' (B + 7) 3 (yp_N (nf + 1)), ?_, fun a j q => ?_, fun a j q1 q2 q3 => ?_, ?_, ?_, yp_up2_s _ _ _ _, fun q l hl => ?_⟩
  · simp (disch := omega) only [fX1_readFellow_j35, fX1_readFellow, hS, e1, yp_b1, Nat.reduceAdd, Nat.reduceMul, Nat.reduceSub, Nat.zero_add, Nat.add_zero, yp_LT, yp_nA, yp_nM, yp_ltF, yp_ltT, yp_leF, yp_leT, yp_eqF, eq_self, yp_eqM, yp_lt1N, yp_sbN, yp_sb2N, ↓reduceIte, ↓yp_iP11, ↓yp_iP12, ↓yp_m0P]
  · unfold yp_TCl at q
    rw [yp_up2_n _ _ (by omega)]
    exact e2 a j (by omega) (by omega)
  · rw [yp_up2_n _ _ (by omega)]
    exact e2 a j (by omega) q2
  · exact e3.fr (fun a j q => yp_up2_n _ _ (by omega))
  · rw [← e4]
    exact yp_FL_fr (fun j q => yp_up2_n _ _ (by omega))
  · rw [yp_up2_n _ _ (by omega)]
    exact e5 q l hl
set_option maxHeartbeats 1000000 in
theorem yp_c_body (h : yp_CT B m t n p) (hf : yp_FL B m = (yp_N 0, -yp_N 1)) (z : yp_ClT) (hI : yp_clI z) (hC : yp_clC B m z.2.2) (j : Nat) (hj : j < 3) (hx : ¬ ((j = 0 ∧ z.2.2.1.1 = 6) ∨ (j = 1 ∧ z.2.2.1.2.1 = 8))) : ∃ m', fX1_readClause_j63 (yp_SH B) (B + 7) (B + 1) (yp_N j) m = some m' ∧ yp_Fr (yp_TCl B) m m' ∧ yp_FL B m' = yp_FLk (yp_clF t n z j p) ∧ ((yp_clF t n z j p).1 = 0 → yp_CT B m' t n (yp_sk t n (yp_clB t n z j p).2.1 + 1) ∧ yp_clC B m' (yp_clB t n z j p).2.2) := by
  have hT := yp_tapS B
  have hS := yp_cspS B
  have hpn := h.2.2.1
  have hn := h.2.1
  obtain ⟨i1, i2, i3, i4, i5, i6, i7, i8⟩ := hI
  have fin : ∀ m1 (a : Nat × Nat) (q : Nat), yp_fok a → yp_CT B m1 t n q → yp_FL B m1 = yp_FLk a → yp_Fr (yp_TCl B) m m1 → ∃ m', fX1_readClause_j138 (yp_SH B) (B + 1) m1 = some m' ∧ yp_Fr (yp_TCl B) m m' ∧ yp_FL B m' = yp_FLk (yp_fa a (yp_sgk t n q 59, yp_sk t n q)) ∧ yp_Fr (yp_T35 B) m1 m' ∧ ((yp_fa a (yp_sgk t n q 59, yp_sk t n q)).1 = 0 → yp_CT B m' t n (yp_sk t n q + 1)) := fun m1 a q ha hc1 hf1 hF1 => by
    obtain ⟨v, m', q', e1, e2, e3, e4, _, e5⟩ := yp_k_wan hc1 hf1 ha 59 (by omega)
    refine ⟨m', by simp (disch := omega) only [fX1_readClause_j138, hT, e1, Nat.reduceAdd, Nat.reduceMul, Nat.reduceSub, Nat.zero_add, Nat.add_zero, yp_LT, yp_nA, yp_nM, yp_ltF, yp_ltT, yp_leF, yp_leT, yp_eqF, eq_self, yp_eqM, yp_lt1N, yp_sbN, yp_sb2N, ↓reduceIte, ↓yp_iP11, ↓yp_iP12, ↓yp_m0P], hF1.tr (yp_T35_cl e2), e5, e2, fun k => ?_⟩
    have := (e4 (yp_fa0 k).2.1).2
    rw [← this]
    exact e3
  have : j = 0 ∨ j = 1 ∨ j = 2 := by omega
  rcases this with rfl | rfl | rfl
  · simp only [yp_clF0, yp_clB0]
    obtain ⟨m1, a1, a2, a2', a3, a4, a5, a6⟩ := yp_c_rdF h hf z.2.2.1.1 (by omega) hC.1
    obtain ⟨m', e1, e2, e3, e4, e5⟩ := fin m1 _ _ (yp_fk_ok hpn hn 7) a3 a4 a2
    refine ⟨m', by simp (disch := omega) only [fX1_readClause_j63, hS, a1, e1, Nat.reduceAdd, Nat.reduceMul, Nat.reduceSub, Nat.zero_add, Nat.add_zero, yp_LT, yp_nA, yp_nM, yp_ltF, yp_ltT, yp_leF, yp_leT, yp_eqF, eq_self, yp_eqM, yp_lt1N, yp_sbN, yp_sb2N, ↓reduceIte, ↓yp_iP11, ↓yp_iP12, ↓yp_m0P], e2, e3, fun k => ⟨e5 k, ?_⟩⟩
    have k1 := (yp_fa0 k).1
    have g : ∀ a j, ¬ (a = B + 1) → m' a j = m1 a j := fun a j q => e4 a j (by unfold yp_T35; omega)
    refine yp_clC.fr (m := m1) ?_ (fun a j q => g a j (by omega))
    refine ⟨a5, ?_, ?_, fun l hl => ?_, fun gg hg => ⟨?_, ?_⟩⟩
    · rw [a2' _ _ (by omega) (by omega) (by omega)]; exact hC.2.1
    · rw [a2' _ _ (by omega) (by omega) (by omega)]; exact hC.2.2.1
    · rw [a6 k1 l hl]
      show _ = yp_N (if z.2.2.1.1 * 7 ≤ l ∧ l < z.2.2.1.1 * 7 + 7 then yp_nV t n (yp_pk t n p (l - z.2.2.1.1 * 7)) else z.2.2.2.1 l)
      by_cases e : z.2.2.1.1 * 7 ≤ l ∧ l < z.2.2.1.1 * 7 + 7
      · rw [if_pos e, if_pos e]
      · rw [if_neg e, if_neg e]; exact hC.2.2.2.1 l hl
    · rw [a2' _ _ (by omega) (by omega) (by omega)]; exact (hC.2.2.2.2 gg hg).1
    · rw [a2' _ _ (by omega) (by omega) (by omega)]; exact (hC.2.2.2.2 gg hg).2
  · simp only [yp_clF1, yp_clB1]
    have b4 := hC.2.1
    have g8 : z.2.2.1.2.1 < 8 := by omega
    obtain ⟨v12, m13, a1, a2, a3, a4, a5⟩ := yp_k_num (a := (0, 0)) h (by rw [hf]; rfl) ⟨by decide, by decide⟩ 1 10 (yp_N 9) (by rw [yp_tiN (by omega)]; omega) (by omega) (by omega)
    rw [yp_fa1 _ rfl] at a5
    obtain ⟨m14, hm14⟩ : ∃ m14, m14 = up2 m13 (B + 9) z.2.2.1.2.1 v12 := ⟨_, rfl⟩
    have b14 : m14 (B + 7) 4 = yp_N z.2.2.1.2.1 := by rw [hm14, yp_up2_n _ _ (by omega), a3 _ _ (by unfold yp_T35; omega)]; exact b4
    obtain ⟨v17, m18, d1, d2, d3, d4, d5⟩ := yp_k_num (a := (yp_nK t n 1 10 p, yp_sk t n p)) (m := m14) (p := yp_nE t n p) (a2.fr (fun a j q => by rw [hm14, yp_up2_n _ _ (by omega)])) (by rw [← a5]; exact yp_FL_fr (fun j q => by rw [hm14, yp_up2_n _ _ (by omega)])) (yp_nKs_ok hpn hn _ _) 0 2 (yp_N 1) (by rw [yp_tiN (by omega)]; omega) (by omega) (by omega)
    obtain ⟨m19, hm19⟩ : ∃ m19, m19 = up2 m18 (B + 10) z.2.2.1.2.1 v17 := ⟨_, rfl⟩
    have b19 : m19 (B + 7) 4 = yp_N z.2.2.1.2.1 := by rw [hm19, yp_up2_n _ _ (by omega), d3 _ _ (by unfold yp_T35; omega)]; exact b14
    obtain ⟨m21, hm21⟩ : ∃ m21, m21 = up2 m19 (B + 7) 4 (yp_N (z.2.2.1.2.1 + 1)) := ⟨_, rfl⟩
    have G : ∀ a j, a ≠ B + 1 → ¬ (a = B + 9 ∧ j = z.2.2.1.2.1) → ¬ (a = B + 10 ∧ j = z.2.2.1.2.1) → ¬ (a = B + 7 ∧ j = 4) → m21 a j = m a j := fun a j q1 q2 q3 q4 => by
      rw [hm21, yp_up2_n _ _ (by omega), hm19, yp_up2_n _ _ (by omega), d3 _ _ (by unfold yp_T35; omega), hm14, yp_up2_n _ _ (by omega), a3 _ _ (by unfold yp_T35; omega)]
    have g21 : ∀ a j, a = B + 1 ∨ a = B + 2 → m21 a j = m18 a j := fun a j q => by rw [hm21, yp_up2_n _ _ (by omega), hm19, yp_up2_n _ _ (by omega)]
    have F21 : yp_Fr (yp_TCl B) m m21 := by
      rw [hm21, hm19]
      refine ((yp_Fr.tr ((yp_T35_cl a3).tr ?_) (yp_T35_cl d3)).up (by unfold yp_TCl; omega)).up (by unfold yp_TCl; omega)
      rw [hm14]; exact yp_Fr.rf.up (by unfold yp_TCl; omega)
    obtain ⟨m', e1, e2, e3, e4, e5⟩ := fin m21 _ _ (yp_fa_ok (yp_nKs_ok hpn hn 1 10) (yp_nKs_ok (yp_nE_le (t := t) hpn) hn 0 2)) (d2.fr (fun a j q => g21 a j (by omega))) (by rw [← d5]; exact yp_FL_fr (fun j q => g21 _ j (by omega))) F21
    refine ⟨m', by simp (disch := omega) only [fX1_readClause_j63, hT, hS, b4, a1, ← hm14, b14, d1, ← hm19, b19, ← hm21, e1, Nat.reduceAdd, Nat.reduceMul, Nat.reduceSub, Nat.zero_add, Nat.add_zero, yp_LT, yp_nA, yp_nM, yp_ltF, yp_ltT, yp_leF, yp_leT, yp_eqF, eq_self, yp_eqM, yp_lt1N, yp_sbN, yp_sb2N, ↓reduceIte, ↓yp_iP11, ↓yp_iP12, ↓yp_m0P], e2, e3, fun k => ⟨e5 k, ?_⟩⟩
    obtain ⟨k1, k2, _⟩ := yp_fa0 (yp_fa0 k).1
    refine yp_clC.fr (m := m21) ?_ (fun a j q => e4 a j (by unfold yp_T35; omega))
    refine ⟨?_, ?_, ?_, fun l hl => ?_, fun gg hg => ?_⟩
    · rw [G _ _ (by omega) (by omega) (by omega) (by omega)]; exact hC.1
    · rw [hm21, yp_up2_s]; try rfl
    · rw [G _ _ (by omega) (by omega) (by omega) (by omega)]; exact hC.2.2.1
    · rw [G _ _ (by omega) (by omega) (by omega) (by omega)]; exact hC.2.2.2.1 l hl
    · have hg : gg < z.2.2.1.2.1 + 1 := hg
      show _ = yp_N ((if gg = z.2.2.1.2.1 then (yp_nV t n p, yp_nV t n (yp_nE t n p)) else z.2.2.2.2 gg) : Nat × Nat).1 ∧ _ = yp_N ((if gg = z.2.2.1.2.1 then (yp_nV t n p, yp_nV t n (yp_nE t n p)) else z.2.2.2.2 gg) : Nat × Nat).2
      by_cases e : gg = z.2.2.1.2.1
      · rw [if_pos e, e]
        refine ⟨?_, ?_⟩
        · rw [hm21, yp_up2_n _ _ (by omega), hm19, yp_up2_n _ _ (by omega), d3 _ _ (by unfold yp_T35; omega), hm14, yp_up2_s]; exact a4 k1
        · rw [hm21, yp_up2_n _ _ (by omega), hm19, yp_up2_s]; exact d4 k2
      · rw [if_neg e, G _ _ (by omega) (by omega) (by omega) (by omega), G _ _ (by omega) (by omega) (by omega) (by omega)]
        exact hC.2.2.2.2 gg (by omega)
  · simp only [yp_clF2, yp_clB2]
    obtain ⟨v7, m8, a1, a2, a3, a4, a5⟩ := yp_k_num (a := (0, 0)) h (by rw [hf]; rfl) ⟨by decide, by decide⟩ 10 100 (yp_N 99) (by rw [yp_tiN (by omega)]; omega) (by omega) (by omega)
    rw [yp_fa1 _ rfl] at a5
    obtain ⟨m9, hm9⟩ : ∃ m9, m9 = up2 m8 (B + 7) 5 v7 := ⟨_, rfl⟩
    have g9 : ∀ a j, ¬ (a = B + 7 ∧ j = 5) → m9 a j = m8 a j := fun a j q => by rw [hm9, yp_up2_n _ _ (by omega)]
    obtain ⟨m', e1, e2, e3, e4, e5⟩ := fin m9 _ _ (yp_nKs_ok hpn hn 10 100) (a2.fr (fun a j q => g9 a j (by omega))) (by rw [← a5]; exact yp_FL_fr (fun j q => g9 _ j (by omega))) (by rw [hm9]; exact (yp_T35_cl a3).up (by unfold yp_TCl; omega))
    refine ⟨m', by simp (disch := omega) only [fX1_readClause_j63, hT, hS, a1, ← hm9, e1, Nat.reduceAdd, Nat.reduceMul, Nat.reduceSub, Nat.zero_add, Nat.add_zero, yp_LT, yp_nA, yp_nM, yp_ltF, yp_ltT, yp_leF, yp_leT, yp_eqF, eq_self, yp_eqM, yp_lt1N, yp_sbN, yp_sb2N, ↓reduceIte, ↓yp_iP11, ↓yp_iP12, ↓yp_m0P], e2, e3, fun k => ⟨e5 k, ?_⟩⟩
    have k1 := (yp_fa0 k).1
    have G : ∀ a j, a ≠ B + 1 → ¬ (a = B + 7 ∧ j = 5) → m9 a j = m a j := fun a j q1 q2 => by rw [g9 a j q2, a3 _ _ (by unfold yp_T35; omega)]
    refine yp_clC.fr (m := m9) ?_ (fun a j q => e4 a j (by unfold yp_T35; omega))
    refine ⟨?_, ?_, ?_, fun l hl => ?_, fun gg hg => ⟨?_, ?_⟩⟩
    · rw [G _ _ (by omega) (by omega)]; exact hC.1
    · rw [G _ _ (by omega) (by omega)]; exact hC.2.1
    · rw [hm9, yp_up2_s]; exact a4 k1
    · rw [G _ _ (by omega) (by omega)]; exact hC.2.2.2.1 l hl
    · rw [G _ _ (by omega) (by omega)]; exact (hC.2.2.2.2 gg hg).1
    · rw [G _ _ (by omega) (by omega)]; exact (hC.2.2.2.2 gg hg).2
end CLGC

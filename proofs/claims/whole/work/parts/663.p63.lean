set_option maxHeartbeats 1000000 in
theorem yp_obM {α β γ : Type} (x : Option α) (f : α → Option β) (g : β → γ) : (x.bind f).map g = x.bind (fun a => (f a).map g) := by cases x <;> rfl
set_option maxHeartbeats 1000000 in
theorem yp_bdM {α β γ : Type} (x : Option α) (m : β) (f : α → β → Option γ) : bd2 (x.map (fun c => (c, m))) f = x.bind (fun c => f c m) := by cases x <;> rfl
def yp_lX0 (x0 : Nat) (cs : List RC) : Option (List RC) :=
  lt1 (cs ++ [(.inl 8 : RC)]) fun c1 =>
  (ptR c1 0 x0 0 cs.length).bind fun c2 =>
  lt1 (c2 ++ [(.inl 8 : RC)]) fun c3 =>
  (ptR c3 0 x0 1 c2.length).bind fun c4 =>
  some c4
set_option maxHeartbeats 1000000 in
theorem yp_kl0 (B x0 : Nat) (cs : List RC) (mm : Mem) : kX0_init B x0 cs mm = (yp_lX0 x0 cs).map (fun c => (c, mm)) := by
  simp only [kX0_init, yp_lX0, lt1, yp_obM, yp_bdM, Option.map_some]
def yp_lX5 (x0 : Nat) (x1 : Nat) (x2 : Nat) (cs : List RC) : Option (List RC) :=
  (ptR cs 5 x0 0 x1).bind fun c1 =>
  (ptR c1 5 x0 1 x2).bind fun c2 =>
  lt1 (c2 ++ [(.inl 8 : RC)]) fun c3 =>
  (ptR c3 5 x0 2 c2.length).bind fun c4 =>
  lt1 (c4 ++ [(.inl 7 : RC)]) fun c5 =>
  (ptR c5 5 x0 3 c4.length).bind fun c6 =>
  lt1 (c6 ++ [(.inl 8 : RC)]) fun c7 =>
  (ptR c7 5 x0 4 c6.length).bind fun c8 =>
  some c8
set_option maxHeartbeats 1000000 in
theorem yp_kl5 (B x0 : Nat) (x1 : Nat) (x2 : Nat) (cs : List RC) (mm : Mem) : kX5_init B x0 x1 x2 cs mm = (yp_lX5 x0 x1 x2 cs).map (fun c => (c, mm)) := by
  simp only [kX5_init, yp_lX5, lt1, yp_obM, yp_bdM, Option.map_some, yp_kl0]
def yp_lX2 (x0 : Nat) (cs : List RC) : Option (List RC) :=
  lt1 (cs ++ [(.inl 42 : RC)]) fun c1 =>
  (ptR c1 2 x0 0 cs.length).bind fun c2 =>
  lt1 (c2 ++ [(.inl 42 : RC)]) fun c3 =>
  (ptR c3 2 x0 1 c2.length).bind fun c4 =>
  lt1 (c4 ++ [(.inl 42 : RC)]) fun c5 =>
  (ptR c5 2 x0 2 c4.length).bind fun c6 =>
  lt1 (c6 ++ [(.inl 42 : RC)]) fun c7 =>
  (ptR c7 2 x0 3 c6.length).bind fun c8 =>
  lt1 (c8 ++ [(.inl 6 : RC)]) fun c9 =>
  (ptR c9 2 x0 4 c8.length).bind fun c10 =>
  some c10
set_option maxHeartbeats 1000000 in
theorem yp_kl2 (B x0 : Nat) (cs : List RC) (mm : Mem) : kX2_init B x0 cs mm = (yp_lX2 x0 cs).map (fun c => (c, mm)) := by
  simp only [kX2_init, yp_lX2, lt1, yp_obM, yp_bdM, Option.map_some, yp_kl0, yp_kl5]
def yp_lX7 (x0 : Nat) (cs : List RC) : Option (List RC) :=
  lt1 (cs ++ [(.inr (.inr (0, 16, [])) : RC)]) fun c1 =>
  (ptR c1 7 x0 0 cs.length).bind fun c2 =>
  (gtR c2 7 x0 0).bind fun g3 =>
  lt1 (c2 ++ [(.inr (.inl (2, [])) : RC)]) fun c4 =>
  (yp_lX2 c2.length c4).bind fun c5 =>
  (stR c5 g3 0 c2.length).bind fun c7 =>
  (gtR c7 7 x0 0).bind fun g8 =>
  lt1 (c7 ++ [(.inr (.inl (2, [])) : RC)]) fun c9 =>
  (yp_lX2 c7.length c9).bind fun c10 =>
  (stR c10 g8 1 c7.length).bind fun c12 =>
  (gtR c12 7 x0 0).bind fun g13 =>
  lt1 (c12 ++ [(.inr (.inl (2, [])) : RC)]) fun c14 =>
  (yp_lX2 c12.length c14).bind fun c15 =>
  (stR c15 g13 2 c12.length).bind fun c17 =>
  (gtR c17 7 x0 0).bind fun g18 =>
  lt1 (c17 ++ [(.inr (.inl (2, [])) : RC)]) fun c19 =>
  (yp_lX2 c17.length c19).bind fun c20 =>
  (stR c20 g18 3 c17.length).bind fun c22 =>
  (gtR c22 7 x0 0).bind fun g23 =>
  lt1 (c22 ++ [(.inr (.inl (2, [])) : RC)]) fun c24 =>
  (yp_lX2 c22.length c24).bind fun c25 =>
  (stR c25 g23 4 c22.length).bind fun c27 =>
  (gtR c27 7 x0 0).bind fun g28 =>
  lt1 (c27 ++ [(.inr (.inl (2, [])) : RC)]) fun c29 =>
  (yp_lX2 c27.length c29).bind fun c30 =>
  (stR c30 g28 5 c27.length).bind fun c32 =>
  (gtR c32 7 x0 0).bind fun g33 =>
  lt1 (c32 ++ [(.inr (.inl (2, [])) : RC)]) fun c34 =>
  (yp_lX2 c32.length c34).bind fun c35 =>
  (stR c35 g33 6 c32.length).bind fun c37 =>
  (gtR c37 7 x0 0).bind fun g38 =>
  lt1 (c37 ++ [(.inr (.inl (2, [])) : RC)]) fun c39 =>
  (yp_lX2 c37.length c39).bind fun c40 =>
  (stR c40 g38 7 c37.length).bind fun c42 =>
  (gtR c42 7 x0 0).bind fun g43 =>
  lt1 (c42 ++ [(.inr (.inl (2, [])) : RC)]) fun c44 =>
  (yp_lX2 c42.length c44).bind fun c45 =>
  (stR c45 g43 8 c42.length).bind fun c47 =>
  (gtR c47 7 x0 0).bind fun g48 =>
  lt1 (c47 ++ [(.inr (.inl (2, [])) : RC)]) fun c49 =>
  (yp_lX2 c47.length c49).bind fun c50 =>
  (stR c50 g48 9 c47.length).bind fun c52 =>
  (gtR c52 7 x0 0).bind fun g53 =>
  lt1 (c52 ++ [(.inr (.inl (2, [])) : RC)]) fun c54 =>
  (yp_lX2 c52.length c54).bind fun c55 =>
  (stR c55 g53 10 c52.length).bind fun c57 =>
  (gtR c57 7 x0 0).bind fun g58 =>
  lt1 (c57 ++ [(.inr (.inl (2, [])) : RC)]) fun c59 =>
  (yp_lX2 c57.length c59).bind fun c60 =>
  (stR c60 g58 11 c57.length).bind fun c62 =>
  (gtR c62 7 x0 0).bind fun g63 =>
  lt1 (c62 ++ [(.inr (.inl (2, [])) : RC)]) fun c64 =>
  (yp_lX2 c62.length c64).bind fun c65 =>
  (stR c65 g63 12 c62.length).bind fun c67 =>
  (gtR c67 7 x0 0).bind fun g68 =>
  lt1 (c67 ++ [(.inr (.inl (2, [])) : RC)]) fun c69 =>
  (yp_lX2 c67.length c69).bind fun c70 =>
  (stR c70 g68 13 c67.length).bind fun c72 =>
  (gtR c72 7 x0 0).bind fun g73 =>
  lt1 (c72 ++ [(.inr (.inl (2, [])) : RC)]) fun c74 =>
  (yp_lX2 c72.length c74).bind fun c75 =>
  (stR c75 g73 14 c72.length).bind fun c77 =>
  (gtR c77 7 x0 0).bind fun g78 =>
  lt1 (c77 ++ [(.inr (.inl (2, [])) : RC)]) fun c79 =>
  (yp_lX2 c77.length c79).bind fun c80 =>
  (stR c80 g78 15 c77.length).bind fun c82 =>
  some c82
set_option maxHeartbeats 1000000 in
theorem yp_kl7 (B x0 : Nat) (cs : List RC) (mm : Mem) : kX7_init B x0 cs mm = (yp_lX7 x0 cs).map (fun c => (c, mm)) := by
  simp only [kX7_init, yp_lX7, lt1, yp_obM, yp_bdM, Option.map_some, yp_kl0, yp_kl5, yp_kl2]
def yp_lX3 (x0 : Nat) (cs : List RC) : Option (List RC) :=
  lt1 (cs ++ [(.inr (.inl (2, [])) : RC)]) fun c1 =>
  (yp_lX2 cs.length c1).bind fun c2 =>
  (ptR c2 3 x0 0 cs.length).bind fun c4 =>
  lt1 (c4 ++ [(.inr (.inl (7, [])) : RC)]) fun c5 =>
  (yp_lX7 c4.length c5).bind fun c6 =>
  (ptR c6 3 x0 1 c4.length).bind fun c8 =>
  some c8
set_option maxHeartbeats 1000000 in
theorem yp_kl3 (B x0 : Nat) (cs : List RC) (mm : Mem) : kX3_init B x0 cs mm = (yp_lX3 x0 cs).map (fun c => (c, mm)) := by
  simp only [kX3_init, yp_lX3, lt1, yp_obM, yp_bdM, Option.map_some, yp_kl0, yp_kl5, yp_kl2, yp_kl7]
def yp_lX10 (x0 : Nat) (x1 : Nat) (x2 : Nat) (x3 : Nat) (cs : List RC) : Option (List RC) :=
  (ptR cs 10 x0 0 x1).bind fun c1 =>
  (ptR c1 10 x0 1 x2).bind fun c2 =>
  (ptR c2 10 x0 2 x3).bind fun c3 =>
  lt1 (c3 ++ [(.inl 150 : RC)]) fun c4 =>
  (ptR c4 10 x0 3 c3.length).bind fun c5 =>
  lt1 (c5 ++ [(.inl 150 : RC)]) fun c6 =>
  (ptR c6 10 x0 4 c5.length).bind fun c7 =>
  lt1 (c7 ++ [(.inl 150 : RC)]) fun c8 =>
  (ptR c8 10 x0 5 c7.length).bind fun c9 =>
  lt1 (c9 ++ [(.inl 150 : RC)]) fun c10 =>
  (ptR c10 10 x0 6 c9.length).bind fun c11 =>
  lt1 (c11 ++ [(.inl 150 : RC)]) fun c12 =>
  (ptR c12 10 x0 7 c11.length).bind fun c13 =>
  some c13
set_option maxHeartbeats 1000000 in
theorem yp_kl10 (B x0 : Nat) (x1 : Nat) (x2 : Nat) (x3 : Nat) (cs : List RC) (mm : Mem) : kX10_init B x0 x1 x2 x3 cs mm = (yp_lX10 x0 x1 x2 x3 cs).map (fun c => (c, mm)) := by
  simp only [kX10_init, yp_lX10, lt1, yp_obM, yp_bdM, Option.map_some, yp_kl0, yp_kl5, yp_kl2, yp_kl7, yp_kl3]
def yp_lX6 (x0 : Nat) (x1 : Nat) (x2 : Nat) (x3 : Nat) (cs : List RC) : Option (List RC) :=
  (ptR cs 6 x0 0 x1).bind fun c1 =>
  (ptR c1 6 x0 1 x2).bind fun c2 =>
  (ptR c2 6 x0 2 x3).bind fun c3 =>
  lt1 (c3 ++ [(.inr (.inl (2, [])) : RC)]) fun c4 =>
  (yp_lX2 c3.length c4).bind fun c5 =>
  (ptR c5 6 x0 3 c3.length).bind fun c7 =>
  lt1 (nwM c7 48 99) fun c8 =>
  (ptR c8 6 x0 4 c7.length).bind fun c9 =>
  lt1 (c9 ++ [(.inl 1681 : RC)]) fun c10 =>
  (ptR c10 6 x0 5 c9.length).bind fun c11 =>
  some c11
set_option maxHeartbeats 1000000 in
theorem yp_kl6 (B x0 : Nat) (x1 : Nat) (x2 : Nat) (x3 : Nat) (cs : List RC) (mm : Mem) : kX6_init B x0 x1 x2 x3 cs mm = (yp_lX6 x0 x1 x2 x3 cs).map (fun c => (c, mm)) := by
  simp only [kX6_init, yp_lX6, lt1, yp_obM, yp_bdM, Option.map_some, yp_kl0, yp_kl5, yp_kl2, yp_kl7, yp_kl3, yp_kl10]
def yp_lX9 (x0 : Nat) (x1 : Nat) (x2 : Nat) (cs : List RC) : Option (List RC) :=
  (ptR cs 9 x0 0 x1).bind fun c1 =>
  (ptR c1 9 x0 1 x2).bind fun c2 =>
  lt1 (c2 ++ [(.inr (.inl (2, [])) : RC)]) fun c3 =>
  (yp_lX2 c2.length c3).bind fun c4 =>
  (ptR c4 9 x0 2 c2.length).bind fun c6 =>
  some c6
set_option maxHeartbeats 1000000 in
theorem yp_kl9 (B x0 : Nat) (x1 : Nat) (x2 : Nat) (cs : List RC) (mm : Mem) : kX9_init B x0 x1 x2 cs mm = (yp_lX9 x0 x1 x2 cs).map (fun c => (c, mm)) := by
  simp only [kX9_init, yp_lX9, lt1, yp_obM, yp_bdM, Option.map_some, yp_kl0, yp_kl5, yp_kl2, yp_kl7, yp_kl3, yp_kl10, yp_kl6]
def yp_lX11 (x0 : Nat) (c20 : List RC) : Option (List RC) :=
  lt1 (c20 ++ [(.inr (.inl (0, [])) : RC)]) fun c21 =>
  (yp_lX0 c20.length c21).bind fun c22 =>
  (ptR c22 11 x0 5 c20.length).bind fun c24 =>
  lt1 (c24 ++ [(.inr (.inl (0, [])) : RC)]) fun c25 =>
  (yp_lX0 c24.length c25).bind fun c26 =>
  (ptR c26 11 x0 6 c24.length).bind fun c28 =>
  lt1 (c28 ++ [(.inr (.inl (5, [])) : RC)]) fun c29 =>
  (gtR c29 11 x0 1).bind fun g30 =>
  (gtR c29 11 x0 3).bind fun g31 =>
  (yp_lX5 c28.length g30 g31 c29).bind fun c32 =>
  (ptR c32 11 x0 7 c28.length).bind fun c34 =>
  lt1 (c34 ++ [(.inr (.inl (10, [])) : RC)]) fun c35 =>
  (gtR c35 11 x0 0).bind fun g36 =>
  (gtR c35 11 x0 1).bind fun g37 =>
  (gtR c35 11 x0 7).bind fun g38 =>
  (yp_lX10 c34.length g36 g37 g38 c35).bind fun c39 =>
  (ptR c39 11 x0 8 c34.length).bind fun c41 =>
  lt1 (c41 ++ [(.inr (.inl (2, [])) : RC)]) fun c42 =>
  (yp_lX2 c41.length c42).bind fun c43 =>
  (ptR c43 11 x0 9 c41.length).bind fun c45 =>
  lt1 (c45 ++ [(.inr (.inl (7, [])) : RC)]) fun c46 =>
  (yp_lX7 c45.length c46).bind fun c47 =>
  (ptR c47 11 x0 10 c45.length).bind fun c49 =>
  lt1 (c49 ++ [(.inr (.inr (1, 3, [])) : RC)]) fun c50 =>
  (ptR c50 11 x0 11 c49.length).bind fun c51 =>
  (gtR c51 11 x0 11).bind fun g52 =>
  lt1 (c51 ++ [(.inr (.inl (3, [])) : RC)]) fun c53 =>
  (yp_lX3 c51.length c53).bind fun c54 =>
  (stR c54 g52 0 c51.length).bind fun c56 =>
  (gtR c56 11 x0 11).bind fun g57 =>
  lt1 (c56 ++ [(.inr (.inl (3, [])) : RC)]) fun c58 =>
  (yp_lX3 c56.length c58).bind fun c59 =>
  (stR c59 g57 1 c56.length).bind fun c61 =>
  (gtR c61 11 x0 11).bind fun g62 =>
  lt1 (c61 ++ [(.inr (.inl (3, [])) : RC)]) fun c63 =>
  (yp_lX3 c61.length c63).bind fun c64 =>
  (stR c64 g62 2 c61.length).bind fun c66 =>
  lt1 (c66 ++ [(.inr (.inl (6, [])) : RC)]) fun c67 =>
  (gtR c67 11 x0 1).bind fun g68 =>
  (gtR c67 11 x0 5).bind fun g69 =>
  (gtR c67 11 x0 7).bind fun g70 =>
  (yp_lX6 c66.length g68 g69 g70 c67).bind fun c71 =>
  (ptR c71 11 x0 14 c66.length).bind fun c73 =>
  lt1 (c73 ++ [(.inr (.inl (9, [])) : RC)]) fun c74 =>
  (gtR c74 11 x0 1).bind fun g75 =>
  (gtR c74 11 x0 7).bind fun g76 =>
  (yp_lX9 c73.length g75 g76 c74).bind fun c77 =>
  (ptR c77 11 x0 15 c73.length).bind fun c79 =>
  some c79
def yp_lX12 (x0 : Nat) (c2 : List RC) : Option (List RC) :=
  lt1 (c2 ++ [(.inl 600 : RC)]) fun c4 =>
  (ptR c4 12 x0 9 c2.length).bind fun c5 =>
  lt1 (c5 ++ [(.inl 42 : RC)]) fun c6 =>
  (ptR c6 12 x0 10 c5.length).bind fun c7 =>
  lt1 (c7 ++ [(.inl 16 : RC)]) fun c8 =>
  (ptR c8 12 x0 11 c7.length).bind fun c9 =>
  lt1 (c9 ++ [(.inl 42 : RC)]) fun c10 =>
  (ptR c10 12 x0 12 c9.length).bind fun c11 =>
  lt1 (c11 ++ [(.inl 16 : RC)]) fun c12 =>
  (ptR c12 12 x0 13 c11.length).bind fun c13 =>
  lt1 (c13 ++ [(.inl 150 : RC)]) fun c14 =>
  (ptR c14 12 x0 20 c13.length).bind fun c15 =>
  lt1 (c15 ++ [(.inl 150 : RC)]) fun c16 =>
  (ptR c16 12 x0 21 c15.length).bind fun c17 =>
  lt1 (c17 ++ [(.inl 150 : RC)]) fun c18 =>
  (ptR c18 12 x0 22 c17.length).bind fun c19 =>
  lt1 (c19 ++ [(.inl 150 : RC)]) fun c20 =>
  (ptR c20 12 x0 23 c19.length).bind fun c21 =>
  lt1 (c21 ++ [(.inl 150 : RC)]) fun c22 =>
  (ptR c22 12 x0 24 c21.length).bind fun c23 =>
  lt1 (c23 ++ [(.inl 8 : RC)]) fun c24 =>
  (ptR c24 12 x0 27 c23.length).bind fun c25 =>
  lt1 (c25 ++ [(.inl 200 : RC)]) fun c26 =>
  (ptR c26 12 x0 28 c25.length).bind fun c27 =>
  lt1 (c27 ++ [(.inl 200 : RC)]) fun c28 =>
  (ptR c28 12 x0 29 c27.length).bind fun c29 =>
  lt1 (c29 ++ [(.inl 175 : RC)]) fun c30 =>
  (ptR c30 12 x0 36 c29.length).bind fun c31 =>
  lt1 (c31 ++ [(.inl 175 : RC)]) fun c32 =>
  (ptR c32 12 x0 37 c31.length).bind fun c33 =>
  lt1 (c33 ++ [(.inl 2800 : RC)]) fun c34 =>
  (ptR c34 12 x0 38 c33.length).bind fun c35 =>
  lt1 (c35 ++ [(.inl 7 : RC)]) fun c36 =>
  (ptR c36 12 x0 39 c35.length).bind fun c37 =>
  lt1 (c37 ++ [(.inl 16 : RC)]) fun c38 =>
  (ptR c38 12 x0 40 c37.length).bind fun c39 =>
  lt1 (c39 ++ [(.inl 16 : RC)]) fun c40 =>
  (ptR c40 12 x0 41 c39.length).bind fun c41 =>
  lt1 (c41 ++ [(.inl 48 : RC)]) fun c42 =>
  (ptR c42 12 x0 43 c41.length).bind fun c43 =>
  lt1 (c43 ++ [(.inl 48 : RC)]) fun c44 =>
  (ptR c44 12 x0 44 c43.length).bind fun c45 =>
  lt1 (c45 ++ [(.inl 4752 : RC)]) fun c46 =>
  (ptR c46 12 x0 46 c45.length).bind fun c47 =>
  lt1 (c47 ++ [(.inl 8928 : RC)]) fun c48 =>
  (ptR c48 12 x0 48 c47.length).bind fun c49 =>
  some c49
def yp_ob (c : Nat) (rs : List (Option Nat)) : RC := .inr (.inl (c, rs))
def yp_CA0 : List RC := [yp_ob 11 [some 1, some 3, some 7, some 11, some 14], yp_ob 8 [some 2], .inl 600, yp_ob 1 [some 4, some 5, some 6], .inl 42, .inl 8, .inl 8, yp_ob 1 [some 8, some 9, some 10], .inl 42, .inl 8, .inl 8, yp_ob 4 [some 12, some 13], .inl 151, .inl 151, yp_ob 4 [some 15, some 16], .inl 151, .inl 151]
def yp_dq5 : DecidableEq RC := inferInstance
def yp_dq6 : DecidableEq (List RC) := by
  have i1 : DecidableEq RC := yp_dq5
  exact inferInstance
def yp_dq7 : DecidableEq (Option (List RC)) := by
  have i1 : DecidableEq (List RC) := yp_dq6
  exact inferInstance
set_option maxHeartbeats 1000000 in
theorem yp_l11 : yp_lX11 0 yp_CA0 = some yp_CE1 := of_decide_eq_true (inst := yp_dq7 _ _) (by decide +kernel)
set_option maxHeartbeats 1000000 in
theorem yp_lenE1 : yp_CE1.length = 517 := by decide +kernel
set_option maxHeartbeats 1000000 in
theorem yp_lenE2 : yp_CE2.length = 542 := by decide +kernel
set_option maxHeartbeats 1000000 in
theorem yp_l12a : ptR ((yp_CE1 ++ [yp_ob 12 []]) ++ [(.inl 2 : RC)]) 12 517 1 518 = some ((yp_CE1 ++ [yp_ob 12 [none, some 518]]) ++ [(.inl 2 : RC)]) := of_decide_eq_true (inst := yp_dq7 _ _) (by decide +kernel)
set_option maxHeartbeats 1000000 in
theorem yp_l12 : yp_lX12 517 ((yp_CE1 ++ [yp_ob 12 [none, some 518]]) ++ [(.inl 2 : RC)]) = some yp_CE2 := of_decide_eq_true (inst := yp_dq7 _ _) (by decide +kernel)

theorem Zr.le {E : Ev} {cs cs' : List RC} {mm : Mem} (h : Zr E cs mm) (hl : cs.length ≤ cs'.length) : Zr E cs' mm := fun a j ha => h a j (by omega)
theorem Zr.put {E : Ev} {cs : List RC} {mm m1 : Mem} {ci i k : Nat} {v : Int32} (h : Zr E cs mm) (hv : wI (shL (eB E) cs) mm ci (eB E + i) k v = some m1) : Zr E cs m1 := by
  obtain ⟨r, hs, rfl⟩ := wI_spec hv
  obtain ⟨i2, hi, he⟩ := shL_some hs
  intro a j ha
  have hne : a ≠ eB E + i := by omega
  rw [up2_ne _ _ _ hne]
  exact h a j ha
def gtR (cs : List RC) (ci i k : Nat) : Option Nat := match cs[i]? with
  | some (.inr (.inl (c, rs))) => if c = ci then rs.getD k none else none
  | _ => none
theorem gtR_n {E : Ev} {cs : List RC} {ci i k j : Nat} (h : gtR cs ci i k = some j) : rR (eS (mkR E cs)) ci (eB E + i) k = some (eB E + j) := by
  unfold gtR at h
  split at h
  · rename_i c rs hs
    split at h
    · rename_i hc
      subst hc
      unfold rR
      rw [am_at hs]
      show (if c = c then (rs.getD k none).map (fun j => eB E + j) else none) = _
      rw [if_pos rfl, h]
      rfl
    · cases h
  · cases h
theorem ptR_len {cs cs' : List RC} {ci i k j : Nat} (h : ptR cs ci i k j = some cs') : cs'.length = cs.length := by
  obtain ⟨_, _, _, _, h1⟩ := ptR_n h
  exact h1
theorem stR_len {cs cs' : List RC} {i j : Nat} {x : Int32} (h : stR cs i x j = some cs') : cs'.length = cs.length := by
  obtain ⟨_, _, _, _, _, _, _, _, _, _, _, h1⟩ := stR_n h
  exact h1
theorem dX8_init_0 : decode cX8_init 0 = .ok (.aload_n 0, 1) := by decide +kernel
theorem dX8_init_1 : decode cX8_init 1 = .ok (.invokespecial 3, 3) := by decide +kernel
theorem dX8_init_4 : decode cX8_init 4 = .ok (.aload_n 0, 1) := by decide +kernel
theorem dX8_init_5 : decode cX8_init 5 = .ok (.sipush 600, 3) := by decide +kernel
theorem dX8_init_8 : decode cX8_init 8 = .ok (.newarray .int, 2) := by decide +kernel
theorem dX8_init_10 : decode cX8_init 10 = .ok (.putfield 9, 3) := by decide +kernel
theorem dX8_init_13 : decode cX8_init 13 = .ok (.aload_n 0, 1) := by decide +kernel
theorem dX8_init_14 : decode cX8_init 14 = .ok (.iconst (-1), 1) := by decide +kernel
theorem dX8_init_15 : decode cX8_init 15 = .ok (.putfield 15, 3) := by decide +kernel
theorem dX8_init_18 : decode cX8_init 18 = .ok (.return_, 1) := by decide +kernel
theorem dX1_init_0 : decode cX1_init 0 = .ok (.aload_n 0, 1) := by decide +kernel
theorem dX1_init_1 : decode cX1_init 1 = .ok (.invokespecial 3, 3) := by decide +kernel
theorem dX1_init_4 : decode cX1_init 4 = .ok (.aload_n 0, 1) := by decide +kernel
theorem dX1_init_5 : decode cX1_init 5 = .ok (.bipush 42, 2) := by decide +kernel
theorem dX1_init_7 : decode cX1_init 7 = .ok (.newarray .int, 2) := by decide +kernel
theorem dX1_init_9 : decode cX1_init 9 = .ok (.putfield 9, 3) := by decide +kernel
theorem dX1_init_12 : decode cX1_init 12 = .ok (.aload_n 0, 1) := by decide +kernel
theorem dX1_init_13 : decode cX1_init 13 = .ok (.bipush 8, 2) := by decide +kernel
theorem dX1_init_15 : decode cX1_init 15 = .ok (.newarray .int, 2) := by decide +kernel
theorem dX1_init_17 : decode cX1_init 17 = .ok (.putfield 15, 3) := by decide +kernel
theorem dX1_init_20 : decode cX1_init 20 = .ok (.aload_n 0, 1) := by decide +kernel
theorem dX1_init_21 : decode cX1_init 21 = .ok (.bipush 8, 2) := by decide +kernel
theorem dX1_init_23 : decode cX1_init 23 = .ok (.newarray .int, 2) := by decide +kernel
theorem dX1_init_25 : decode cX1_init 25 = .ok (.putfield 18, 3) := by decide +kernel
theorem dX1_init_28 : decode cX1_init 28 = .ok (.aload_n 0, 1) := by decide +kernel
theorem dX1_init_29 : decode cX1_init 29 = .ok (.bipush 60, 2) := by decide +kernel
theorem dX1_init_31 : decode cX1_init 31 = .ok (.putfield 21, 3) := by decide +kernel
theorem dX1_init_34 : decode cX1_init 34 = .ok (.return_, 1) := by decide +kernel
theorem dX4_init_0 : decode cX4_init 0 = .ok (.aload_n 0, 1) := by decide +kernel
theorem dX4_init_1 : decode cX4_init 1 = .ok (.invokespecial 3, 3) := by decide +kernel
theorem dX4_init_4 : decode cX4_init 4 = .ok (.aload_n 0, 1) := by decide +kernel
theorem dX4_init_5 : decode cX4_init 5 = .ok (.sipush 151, 3) := by decide +kernel
theorem dX4_init_8 : decode cX4_init 8 = .ok (.newarray .int, 2) := by decide +kernel
theorem dX4_init_10 : decode cX4_init 10 = .ok (.putfield 9, 3) := by decide +kernel
theorem dX4_init_13 : decode cX4_init 13 = .ok (.aload_n 0, 1) := by decide +kernel
theorem dX4_init_14 : decode cX4_init 14 = .ok (.sipush 151, 3) := by decide +kernel
theorem dX4_init_17 : decode cX4_init 17 = .ok (.newarray .int, 2) := by decide +kernel
theorem dX4_init_19 : decode cX4_init 19 = .ok (.putfield 15, 3) := by decide +kernel
theorem dX4_init_22 : decode cX4_init 22 = .ok (.aload_n 0, 1) := by decide +kernel
theorem dX4_init_23 : decode cX4_init 23 = .ok (.invokevirtual 18, 3) := by decide +kernel
theorem dX4_init_26 : decode cX4_init 26 = .ok (.return_, 1) := by decide +kernel
theorem dX0_init_0 : decode cX0_init 0 = .ok (.aload_n 0, 1) := by decide +kernel
theorem dX0_init_1 : decode cX0_init 1 = .ok (.invokespecial 3, 3) := by decide +kernel
theorem dX0_init_4 : decode cX0_init 4 = .ok (.aload_n 0, 1) := by decide +kernel
theorem dX0_init_5 : decode cX0_init 5 = .ok (.bipush 8, 2) := by decide +kernel
theorem dX0_init_7 : decode cX0_init 7 = .ok (.newarray .int, 2) := by decide +kernel
theorem dX0_init_9 : decode cX0_init 9 = .ok (.putfield 9, 3) := by decide +kernel
theorem dX0_init_12 : decode cX0_init 12 = .ok (.aload_n 0, 1) := by decide +kernel
theorem dX0_init_13 : decode cX0_init 13 = .ok (.bipush 8, 2) := by decide +kernel
theorem dX0_init_15 : decode cX0_init 15 = .ok (.newarray .int, 2) := by decide +kernel
theorem dX0_init_17 : decode cX0_init 17 = .ok (.putfield 15, 3) := by decide +kernel
theorem dX0_init_20 : decode cX0_init 20 = .ok (.return_, 1) := by decide +kernel
theorem dX5_init_0 : decode cX5_init 0 = .ok (.aload_n 0, 1) := by decide +kernel
theorem dX5_init_1 : decode cX5_init 1 = .ok (.invokespecial 3, 3) := by decide +kernel
theorem dX5_init_4 : decode cX5_init 4 = .ok (.aload_n 0, 1) := by decide +kernel
theorem dX5_init_5 : decode cX5_init 5 = .ok (.aload_n 1, 1) := by decide +kernel
theorem dX5_init_6 : decode cX5_init 6 = .ok (.putfield 9, 3) := by decide +kernel
theorem dX5_init_9 : decode cX5_init 9 = .ok (.aload_n 0, 1) := by decide +kernel
theorem dX5_init_10 : decode cX5_init 10 = .ok (.aload_n 2, 1) := by decide +kernel
theorem dX5_init_11 : decode cX5_init 11 = .ok (.putfield 15, 3) := by decide +kernel
theorem dX5_init_14 : decode cX5_init 14 = .ok (.aload_n 0, 1) := by decide +kernel
theorem dX5_init_15 : decode cX5_init 15 = .ok (.bipush 8, 2) := by decide +kernel
theorem dX5_init_17 : decode cX5_init 17 = .ok (.newarray .int, 2) := by decide +kernel
theorem dX5_init_19 : decode cX5_init 19 = .ok (.putfield 21, 3) := by decide +kernel
theorem dX5_init_22 : decode cX5_init 22 = .ok (.aload_n 0, 1) := by decide +kernel
theorem dX5_init_23 : decode cX5_init 23 = .ok (.bipush 7, 2) := by decide +kernel
theorem dX5_init_25 : decode cX5_init 25 = .ok (.newarray .int, 2) := by decide +kernel
theorem dX5_init_27 : decode cX5_init 27 = .ok (.putfield 25, 3) := by decide +kernel
theorem dX5_init_30 : decode cX5_init 30 = .ok (.aload_n 0, 1) := by decide +kernel
theorem dX5_init_31 : decode cX5_init 31 = .ok (.bipush 8, 2) := by decide +kernel
theorem dX5_init_33 : decode cX5_init 33 = .ok (.newarray .int, 2) := by decide +kernel
theorem dX5_init_35 : decode cX5_init 35 = .ok (.putfield 28, 3) := by decide +kernel
theorem dX5_init_38 : decode cX5_init 38 = .ok (.return_, 1) := by decide +kernel
theorem dX2_init_0 : decode cX2_init 0 = .ok (.aload_n 0, 1) := by decide +kernel
theorem dX2_init_1 : decode cX2_init 1 = .ok (.invokespecial 3, 3) := by decide +kernel
theorem dX2_init_4 : decode cX2_init 4 = .ok (.aload_n 0, 1) := by decide +kernel
theorem dX2_init_5 : decode cX2_init 5 = .ok (.bipush 42, 2) := by decide +kernel
theorem dX2_init_7 : decode cX2_init 7 = .ok (.newarray .int, 2) := by decide +kernel
theorem dX2_init_9 : decode cX2_init 9 = .ok (.putfield 9, 3) := by decide +kernel
theorem dX2_init_12 : decode cX2_init 12 = .ok (.aload_n 0, 1) := by decide +kernel
theorem dX2_init_13 : decode cX2_init 13 = .ok (.bipush 42, 2) := by decide +kernel
theorem dX2_init_15 : decode cX2_init 15 = .ok (.newarray .int, 2) := by decide +kernel
theorem dX2_init_17 : decode cX2_init 17 = .ok (.putfield 15, 3) := by decide +kernel
theorem dX2_init_20 : decode cX2_init 20 = .ok (.aload_n 0, 1) := by decide +kernel
theorem dX2_init_21 : decode cX2_init 21 = .ok (.bipush 42, 2) := by decide +kernel
theorem dX2_init_23 : decode cX2_init 23 = .ok (.newarray .int, 2) := by decide +kernel
theorem dX2_init_25 : decode cX2_init 25 = .ok (.putfield 18, 3) := by decide +kernel
theorem dX2_init_28 : decode cX2_init 28 = .ok (.aload_n 0, 1) := by decide +kernel
theorem dX2_init_29 : decode cX2_init 29 = .ok (.bipush 42, 2) := by decide +kernel
theorem dX2_init_31 : decode cX2_init 31 = .ok (.newarray .int, 2) := by decide +kernel
theorem dX2_init_33 : decode cX2_init 33 = .ok (.putfield 21, 3) := by decide +kernel
theorem dX2_init_36 : decode cX2_init 36 = .ok (.aload_n 0, 1) := by decide +kernel
theorem dX2_init_37 : decode cX2_init 37 = .ok (.bipush 6, 2) := by decide +kernel
theorem dX2_init_39 : decode cX2_init 39 = .ok (.newarray .int, 2) := by decide +kernel
theorem dX2_init_41 : decode cX2_init 41 = .ok (.putfield 24, 3) := by decide +kernel
theorem dX2_init_44 : decode cX2_init 44 = .ok (.return_, 1) := by decide +kernel
theorem dX7_init_0 : decode cX7_init 0 = .ok (.aload_n 0, 1) := by decide +kernel
theorem dX7_init_1 : decode cX7_init 1 = .ok (.invokespecial 3, 3) := by decide +kernel
theorem dX7_init_4 : decode cX7_init 4 = .ok (.aload_n 0, 1) := by decide +kernel
theorem dX7_init_5 : decode cX7_init 5 = .ok (.bipush 16, 2) := by decide +kernel
theorem dX7_init_7 : decode cX7_init 7 = .ok (.anewarray 9, 3) := by decide +kernel
theorem dX7_init_10 : decode cX7_init 10 = .ok (.putfield 11, 3) := by decide +kernel
theorem dX7_init_13 : decode cX7_init 13 = .ok (.iconst 0, 1) := by decide +kernel
theorem dX7_init_14 : decode cX7_init 14 = .ok (.istore_n 1, 1) := by decide +kernel
theorem dX7_init_15 : decode cX7_init 15 = .ok (.iload_n 1, 1) := by decide +kernel
theorem dX7_init_16 : decode cX7_init 16 = .ok (.bipush 16, 2) := by decide +kernel
theorem dX7_init_18 : decode cX7_init 18 = .ok (.if_icmp .ge 22, 3) := by decide +kernel
theorem dX7_init_21 : decode cX7_init 21 = .ok (.aload_n 0, 1) := by decide +kernel
theorem dX7_init_22 : decode cX7_init 22 = .ok (.getfield 11, 3) := by decide +kernel
theorem dX7_init_25 : decode cX7_init 25 = .ok (.iload_n 1, 1) := by decide +kernel
theorem dX7_init_26 : decode cX7_init 26 = .ok (.new 9, 3) := by decide +kernel
theorem dX7_init_29 : decode cX7_init 29 = .ok (.dup, 1) := by decide +kernel
theorem dX7_init_30 : decode cX7_init 30 = .ok (.invokespecial 17, 3) := by decide +kernel
theorem dX7_init_33 : decode cX7_init 33 = .ok (.aastore, 1) := by decide +kernel
theorem dX7_init_34 : decode cX7_init 34 = .ok (.iinc 1 1, 3) := by decide +kernel
theorem dX7_init_37 : decode cX7_init 37 = .ok (.goto (-22), 3) := by decide +kernel
theorem dX7_init_40 : decode cX7_init 40 = .ok (.return_, 1) := by decide +kernel
theorem dX3_init_0 : decode cX3_init 0 = .ok (.aload_n 0, 1) := by decide +kernel
theorem dX3_init_1 : decode cX3_init 1 = .ok (.invokespecial 1, 3) := by decide +kernel
theorem dX3_init_4 : decode cX3_init 4 = .ok (.aload_n 0, 1) := by decide +kernel
theorem dX3_init_5 : decode cX3_init 5 = .ok (.new 7, 3) := by decide +kernel
theorem dX3_init_8 : decode cX3_init 8 = .ok (.dup, 1) := by decide +kernel
theorem dX3_init_9 : decode cX3_init 9 = .ok (.invokespecial 9, 3) := by decide +kernel
theorem dX3_init_12 : decode cX3_init 12 = .ok (.putfield 10, 3) := by decide +kernel
theorem dX3_init_15 : decode cX3_init 15 = .ok (.aload_n 0, 1) := by decide +kernel
theorem dX3_init_16 : decode cX3_init 16 = .ok (.new 16, 3) := by decide +kernel
theorem dX3_init_19 : decode cX3_init 19 = .ok (.dup, 1) := by decide +kernel
theorem dX3_init_20 : decode cX3_init 20 = .ok (.invokespecial 18, 3) := by decide +kernel
theorem dX3_init_23 : decode cX3_init 23 = .ok (.putfield 19, 3) := by decide +kernel
theorem dX3_init_26 : decode cX3_init 26 = .ok (.return_, 1) := by decide +kernel
theorem dX10_init_0 : decode cX10_init 0 = .ok (.aload_n 0, 1) := by decide +kernel
theorem dX10_init_1 : decode cX10_init 1 = .ok (.invokespecial 3, 3) := by decide +kernel
theorem dX10_init_4 : decode cX10_init 4 = .ok (.aload_n 0, 1) := by decide +kernel
theorem dX10_init_5 : decode cX10_init 5 = .ok (.aload_n 1, 1) := by decide +kernel
theorem dX10_init_6 : decode cX10_init 6 = .ok (.putfield 9, 3) := by decide +kernel
theorem dX10_init_9 : decode cX10_init 9 = .ok (.aload_n 0, 1) := by decide +kernel
theorem dX10_init_10 : decode cX10_init 10 = .ok (.aload_n 2, 1) := by decide +kernel
theorem dX10_init_11 : decode cX10_init 11 = .ok (.putfield 15, 3) := by decide +kernel
theorem dX10_init_14 : decode cX10_init 14 = .ok (.aload_n 0, 1) := by decide +kernel
theorem dX10_init_15 : decode cX10_init 15 = .ok (.aload_n 3, 1) := by decide +kernel
theorem dX10_init_16 : decode cX10_init 16 = .ok (.putfield 19, 3) := by decide +kernel
theorem dX10_init_19 : decode cX10_init 19 = .ok (.aload_n 0, 1) := by decide +kernel
theorem dX10_init_20 : decode cX10_init 20 = .ok (.sipush 150, 3) := by decide +kernel
theorem dX10_init_23 : decode cX10_init 23 = .ok (.newarray .int, 2) := by decide +kernel
theorem dX10_init_25 : decode cX10_init 25 = .ok (.putfield 23, 3) := by decide +kernel
theorem dX10_init_28 : decode cX10_init 28 = .ok (.aload_n 0, 1) := by decide +kernel
theorem dX10_init_29 : decode cX10_init 29 = .ok (.sipush 150, 3) := by decide +kernel
theorem dX10_init_32 : decode cX10_init 32 = .ok (.newarray .int, 2) := by decide +kernel
theorem dX10_init_34 : decode cX10_init 34 = .ok (.putfield 27, 3) := by decide +kernel
theorem dX10_init_37 : decode cX10_init 37 = .ok (.aload_n 0, 1) := by decide +kernel
theorem dX10_init_38 : decode cX10_init 38 = .ok (.sipush 150, 3) := by decide +kernel
theorem dX10_init_41 : decode cX10_init 41 = .ok (.newarray .int, 2) := by decide +kernel
theorem dX10_init_43 : decode cX10_init 43 = .ok (.putfield 30, 3) := by decide +kernel
theorem dX10_init_46 : decode cX10_init 46 = .ok (.aload_n 0, 1) := by decide +kernel
theorem dX10_init_47 : decode cX10_init 47 = .ok (.sipush 150, 3) := by decide +kernel
theorem dX10_init_50 : decode cX10_init 50 = .ok (.newarray .int, 2) := by decide +kernel
theorem dX10_init_52 : decode cX10_init 52 = .ok (.putfield 33, 3) := by decide +kernel
theorem dX10_init_55 : decode cX10_init 55 = .ok (.aload_n 0, 1) := by decide +kernel
theorem dX10_init_56 : decode cX10_init 56 = .ok (.sipush 150, 3) := by decide +kernel
theorem dX10_init_59 : decode cX10_init 59 = .ok (.newarray .int, 2) := by decide +kernel
theorem dX10_init_61 : decode cX10_init 61 = .ok (.putfield 36, 3) := by decide +kernel
theorem dX10_init_64 : decode cX10_init 64 = .ok (.return_, 1) := by decide +kernel
theorem dX6_init_0 : decode cX6_init 0 = .ok (.aload_n 0, 1) := by decide +kernel
theorem dX6_init_1 : decode cX6_init 1 = .ok (.invokespecial 3, 3) := by decide +kernel
theorem dX6_init_4 : decode cX6_init 4 = .ok (.aload_n 0, 1) := by decide +kernel
theorem dX6_init_5 : decode cX6_init 5 = .ok (.aload_n 1, 1) := by decide +kernel
theorem dX6_init_6 : decode cX6_init 6 = .ok (.putfield 9, 3) := by decide +kernel
theorem dX6_init_9 : decode cX6_init 9 = .ok (.aload_n 0, 1) := by decide +kernel
theorem dX6_init_10 : decode cX6_init 10 = .ok (.aload_n 2, 1) := by decide +kernel
theorem dX6_init_11 : decode cX6_init 11 = .ok (.putfield 15, 3) := by decide +kernel
theorem dX6_init_14 : decode cX6_init 14 = .ok (.aload_n 0, 1) := by decide +kernel
theorem dX6_init_15 : decode cX6_init 15 = .ok (.aload_n 3, 1) := by decide +kernel
theorem dX6_init_16 : decode cX6_init 16 = .ok (.putfield 19, 3) := by decide +kernel
theorem dX6_init_19 : decode cX6_init 19 = .ok (.aload_n 0, 1) := by decide +kernel
theorem dX6_init_20 : decode cX6_init 20 = .ok (.new 23, 3) := by decide +kernel
theorem dX6_init_23 : decode cX6_init 23 = .ok (.dup, 1) := by decide +kernel
theorem dX6_init_24 : decode cX6_init 24 = .ok (.invokespecial 25, 3) := by decide +kernel
theorem dX6_init_27 : decode cX6_init 27 = .ok (.putfield 26, 3) := by decide +kernel
theorem dX6_init_30 : decode cX6_init 30 = .ok (.aload_n 0, 1) := by decide +kernel
theorem dX6_init_31 : decode cX6_init 31 = .ok (.bipush 48, 2) := by decide +kernel
theorem dX6_init_33 : decode cX6_init 33 = .ok (.bipush 99, 2) := by decide +kernel
theorem dX6_init_35 : decode cX6_init 35 = .ok (.multianewarray 30 2, 4) := by decide +kernel
theorem dX6_init_39 : decode cX6_init 39 = .ok (.putfield 32, 3) := by decide +kernel
theorem dX6_init_42 : decode cX6_init 42 = .ok (.aload_n 0, 1) := by decide +kernel
theorem dX6_init_43 : decode cX6_init 43 = .ok (.sipush 1681, 3) := by decide +kernel
theorem dX6_init_46 : decode cX6_init 46 = .ok (.newarray .int, 2) := by decide +kernel
theorem dX6_init_48 : decode cX6_init 48 = .ok (.putfield 35, 3) := by decide +kernel
theorem dX6_init_51 : decode cX6_init 51 = .ok (.return_, 1) := by decide +kernel
theorem dX9_init_0 : decode cX9_init 0 = .ok (.aload_n 0, 1) := by decide +kernel
theorem dX9_init_1 : decode cX9_init 1 = .ok (.invokespecial 3, 3) := by decide +kernel
theorem dX9_init_4 : decode cX9_init 4 = .ok (.aload_n 0, 1) := by decide +kernel
theorem dX9_init_5 : decode cX9_init 5 = .ok (.aload_n 1, 1) := by decide +kernel
theorem dX9_init_6 : decode cX9_init 6 = .ok (.putfield 9, 3) := by decide +kernel
theorem dX9_init_9 : decode cX9_init 9 = .ok (.aload_n 0, 1) := by decide +kernel
theorem dX9_init_10 : decode cX9_init 10 = .ok (.aload_n 2, 1) := by decide +kernel
theorem dX9_init_11 : decode cX9_init 11 = .ok (.putfield 15, 3) := by decide +kernel
theorem dX9_init_14 : decode cX9_init 14 = .ok (.aload_n 0, 1) := by decide +kernel
theorem dX9_init_15 : decode cX9_init 15 = .ok (.new 19, 3) := by decide +kernel
theorem dX9_init_18 : decode cX9_init 18 = .ok (.dup, 1) := by decide +kernel
theorem dX9_init_19 : decode cX9_init 19 = .ok (.invokespecial 21, 3) := by decide +kernel
theorem dX9_init_22 : decode cX9_init 22 = .ok (.putfield 22, 3) := by decide +kernel
theorem dX9_init_25 : decode cX9_init 25 = .ok (.return_, 1) := by decide +kernel
theorem dX11_init_0 : decode cX11_init 0 = .ok (.aload_n 0, 1) := by decide +kernel
theorem dX11_init_1 : decode cX11_init 1 = .ok (.invokespecial 3, 3) := by decide +kernel
theorem dX11_init_4 : decode cX11_init 4 = .ok (.aload_n 0, 1) := by decide +kernel
theorem dX11_init_5 : decode cX11_init 5 = .ok (.new 9, 3) := by decide +kernel
theorem dX11_init_8 : decode cX11_init 8 = .ok (.dup, 1) := by decide +kernel
theorem dX11_init_9 : decode cX11_init 9 = .ok (.invokespecial 11, 3) := by decide +kernel
theorem dX11_init_12 : decode cX11_init 12 = .ok (.putfield 12, 3) := by decide +kernel
theorem dX11_init_15 : decode cX11_init 15 = .ok (.aload_n 0, 1) := by decide +kernel
theorem dX11_init_16 : decode cX11_init 16 = .ok (.new 16, 3) := by decide +kernel
theorem dX11_init_19 : decode cX11_init 19 = .ok (.dup, 1) := by decide +kernel
theorem dX11_init_20 : decode cX11_init 20 = .ok (.invokespecial 18, 3) := by decide +kernel
theorem dX11_init_23 : decode cX11_init 23 = .ok (.putfield 19, 3) := by decide +kernel
theorem dX11_init_26 : decode cX11_init 26 = .ok (.aload_n 0, 1) := by decide +kernel
theorem dX11_init_27 : decode cX11_init 27 = .ok (.new 16, 3) := by decide +kernel
theorem dX11_init_30 : decode cX11_init 30 = .ok (.dup, 1) := by decide +kernel
theorem dX11_init_31 : decode cX11_init 31 = .ok (.invokespecial 18, 3) := by decide +kernel
theorem dX11_init_34 : decode cX11_init 34 = .ok (.putfield 23, 3) := by decide +kernel
theorem dX11_init_37 : decode cX11_init 37 = .ok (.aload_n 0, 1) := by decide +kernel
theorem dX11_init_38 : decode cX11_init 38 = .ok (.new 26, 3) := by decide +kernel
theorem dX11_init_41 : decode cX11_init 41 = .ok (.dup, 1) := by decide +kernel
theorem dX11_init_42 : decode cX11_init 42 = .ok (.invokespecial 28, 3) := by decide +kernel
theorem dX11_init_45 : decode cX11_init 45 = .ok (.putfield 29, 3) := by decide +kernel
theorem dX11_init_48 : decode cX11_init 48 = .ok (.aload_n 0, 1) := by decide +kernel
theorem dX11_init_49 : decode cX11_init 49 = .ok (.new 26, 3) := by decide +kernel
theorem dX11_init_52 : decode cX11_init 52 = .ok (.dup, 1) := by decide +kernel
theorem dX11_init_53 : decode cX11_init 53 = .ok (.invokespecial 28, 3) := by decide +kernel
theorem dX11_init_56 : decode cX11_init 56 = .ok (.putfield 33, 3) := by decide +kernel
theorem dX11_init_59 : decode cX11_init 59 = .ok (.aload_n 0, 1) := by decide +kernel
theorem dX11_init_60 : decode cX11_init 60 = .ok (.new 36, 3) := by decide +kernel
theorem dX11_init_63 : decode cX11_init 63 = .ok (.dup, 1) := by decide +kernel
theorem dX11_init_64 : decode cX11_init 64 = .ok (.invokespecial 38, 3) := by decide +kernel
theorem dX11_init_67 : decode cX11_init 67 = .ok (.putfield 39, 3) := by decide +kernel
theorem dX11_init_70 : decode cX11_init 70 = .ok (.aload_n 0, 1) := by decide +kernel
theorem dX11_init_71 : decode cX11_init 71 = .ok (.new 36, 3) := by decide +kernel
theorem dX11_init_74 : decode cX11_init 74 = .ok (.dup, 1) := by decide +kernel
theorem dX11_init_75 : decode cX11_init 75 = .ok (.invokespecial 38, 3) := by decide +kernel
theorem dX11_init_78 : decode cX11_init 78 = .ok (.putfield 43, 3) := by decide +kernel
theorem dX11_init_81 : decode cX11_init 81 = .ok (.aload_n 0, 1) := by decide +kernel
theorem dX11_init_82 : decode cX11_init 82 = .ok (.new 46, 3) := by decide +kernel
theorem dX11_init_85 : decode cX11_init 85 = .ok (.dup, 1) := by decide +kernel
theorem dX11_init_86 : decode cX11_init 86 = .ok (.aload_n 0, 1) := by decide +kernel
theorem dX11_init_87 : decode cX11_init 87 = .ok (.getfield 19, 3) := by decide +kernel
theorem dX11_init_90 : decode cX11_init 90 = .ok (.aload_n 0, 1) := by decide +kernel
theorem dX11_init_91 : decode cX11_init 91 = .ok (.getfield 29, 3) := by decide +kernel
theorem dX11_init_94 : decode cX11_init 94 = .ok (.invokespecial 48, 3) := by decide +kernel
theorem dX11_init_97 : decode cX11_init 97 = .ok (.putfield 51, 3) := by decide +kernel
theorem dX11_init_100 : decode cX11_init 100 = .ok (.aload_n 0, 1) := by decide +kernel
theorem dX11_init_101 : decode cX11_init 101 = .ok (.new 55, 3) := by decide +kernel
theorem dX11_init_104 : decode cX11_init 104 = .ok (.dup, 1) := by decide +kernel
theorem dX11_init_105 : decode cX11_init 105 = .ok (.aload_n 0, 1) := by decide +kernel
theorem dX11_init_106 : decode cX11_init 106 = .ok (.getfield 12, 3) := by decide +kernel
theorem dX11_init_109 : decode cX11_init 109 = .ok (.aload_n 0, 1) := by decide +kernel
theorem dX11_init_110 : decode cX11_init 110 = .ok (.getfield 19, 3) := by decide +kernel
theorem dX11_init_113 : decode cX11_init 113 = .ok (.aload_n 0, 1) := by decide +kernel
theorem dX11_init_114 : decode cX11_init 114 = .ok (.getfield 51, 3) := by decide +kernel
theorem dX11_init_117 : decode cX11_init 117 = .ok (.invokespecial 57, 3) := by decide +kernel
theorem dX11_init_120 : decode cX11_init 120 = .ok (.putfield 60, 3) := by decide +kernel
theorem dX11_init_123 : decode cX11_init 123 = .ok (.aload_n 0, 1) := by decide +kernel
theorem dX11_init_124 : decode cX11_init 124 = .ok (.new 64, 3) := by decide +kernel
theorem dX11_init_127 : decode cX11_init 127 = .ok (.dup, 1) := by decide +kernel
theorem dX11_init_128 : decode cX11_init 128 = .ok (.invokespecial 66, 3) := by decide +kernel
theorem dX11_init_131 : decode cX11_init 131 = .ok (.putfield 67, 3) := by decide +kernel
theorem dX11_init_134 : decode cX11_init 134 = .ok (.aload_n 0, 1) := by decide +kernel
theorem dX11_init_135 : decode cX11_init 135 = .ok (.new 71, 3) := by decide +kernel
theorem dX11_init_138 : decode cX11_init 138 = .ok (.dup, 1) := by decide +kernel
theorem dX11_init_139 : decode cX11_init 139 = .ok (.invokespecial 73, 3) := by decide +kernel
theorem dX11_init_142 : decode cX11_init 142 = .ok (.putfield 74, 3) := by decide +kernel
theorem dX11_init_145 : decode cX11_init 145 = .ok (.aload_n 0, 1) := by decide +kernel
theorem dX11_init_146 : decode cX11_init 146 = .ok (.iconst 3, 1) := by decide +kernel
theorem dX11_init_147 : decode cX11_init 147 = .ok (.anewarray 78, 3) := by decide +kernel
theorem dX11_init_150 : decode cX11_init 150 = .ok (.putfield 80, 3) := by decide +kernel
theorem dX11_init_153 : decode cX11_init 153 = .ok (.iconst 0, 1) := by decide +kernel
theorem dX11_init_154 : decode cX11_init 154 = .ok (.istore_n 1, 1) := by decide +kernel
theorem dX11_init_155 : decode cX11_init 155 = .ok (.iload_n 1, 1) := by decide +kernel
theorem dX11_init_156 : decode cX11_init 156 = .ok (.iconst 3, 1) := by decide +kernel
theorem dX11_init_157 : decode cX11_init 157 = .ok (.if_icmp .ge 22, 3) := by decide +kernel
theorem dX11_init_160 : decode cX11_init 160 = .ok (.aload_n 0, 1) := by decide +kernel
theorem dX11_init_161 : decode cX11_init 161 = .ok (.getfield 80, 3) := by decide +kernel
theorem dX11_init_164 : decode cX11_init 164 = .ok (.iload_n 1, 1) := by decide +kernel
theorem dX11_init_165 : decode cX11_init 165 = .ok (.new 78, 3) := by decide +kernel
theorem dX11_init_168 : decode cX11_init 168 = .ok (.dup, 1) := by decide +kernel
theorem dX11_init_169 : decode cX11_init 169 = .ok (.invokespecial 84, 3) := by decide +kernel
theorem dX11_init_172 : decode cX11_init 172 = .ok (.aastore, 1) := by decide +kernel
theorem dX11_init_173 : decode cX11_init 173 = .ok (.iinc 1 1, 3) := by decide +kernel
theorem dX11_init_176 : decode cX11_init 176 = .ok (.goto (-21), 3) := by decide +kernel
theorem dX11_init_179 : decode cX11_init 179 = .ok (.aload_n 0, 1) := by decide +kernel
theorem dX11_init_180 : decode cX11_init 180 = .ok (.new 85, 3) := by decide +kernel
theorem dX11_init_183 : decode cX11_init 183 = .ok (.dup, 1) := by decide +kernel
theorem dX11_init_184 : decode cX11_init 184 = .ok (.aload_n 0, 1) := by decide +kernel
theorem dX11_init_185 : decode cX11_init 185 = .ok (.getfield 19, 3) := by decide +kernel
theorem dX11_init_188 : decode cX11_init 188 = .ok (.aload_n 0, 1) := by decide +kernel
theorem dX11_init_189 : decode cX11_init 189 = .ok (.getfield 39, 3) := by decide +kernel
theorem dX11_init_192 : decode cX11_init 192 = .ok (.aload_n 0, 1) := by decide +kernel
theorem dX11_init_193 : decode cX11_init 193 = .ok (.getfield 51, 3) := by decide +kernel
theorem dX11_init_196 : decode cX11_init 196 = .ok (.invokespecial 87, 3) := by decide +kernel
theorem dX11_init_199 : decode cX11_init 199 = .ok (.putfield 90, 3) := by decide +kernel
theorem dX11_init_202 : decode cX11_init 202 = .ok (.aload_n 0, 1) := by decide +kernel
theorem dX11_init_203 : decode cX11_init 203 = .ok (.new 94, 3) := by decide +kernel
theorem dX11_init_206 : decode cX11_init 206 = .ok (.dup, 1) := by decide +kernel
theorem dX11_init_207 : decode cX11_init 207 = .ok (.aload_n 0, 1) := by decide +kernel
theorem dX11_init_208 : decode cX11_init 208 = .ok (.getfield 19, 3) := by decide +kernel
theorem dX11_init_211 : decode cX11_init 211 = .ok (.aload_n 0, 1) := by decide +kernel
theorem dX11_init_212 : decode cX11_init 212 = .ok (.getfield 51, 3) := by decide +kernel
theorem dX11_init_215 : decode cX11_init 215 = .ok (.invokespecial 96, 3) := by decide +kernel
theorem dX11_init_218 : decode cX11_init 218 = .ok (.putfield 99, 3) := by decide +kernel
theorem dX11_init_221 : decode cX11_init 221 = .ok (.return_, 1) := by decide +kernel
theorem dX12_init_0 : decode cX12_init 0 = .ok (.aload_n 0, 1) := by decide +kernel
theorem dX12_init_1 : decode cX12_init 1 = .ok (.invokespecial 11, 3) := by decide +kernel
theorem dX12_init_4 : decode cX12_init 4 = .ok (.aload_n 0, 1) := by decide +kernel
theorem dX12_init_5 : decode cX12_init 5 = .ok (.iconst 2, 1) := by decide +kernel
theorem dX12_init_6 : decode cX12_init 6 = .ok (.newarray .int, 2) := by decide +kernel
theorem dX12_init_8 : decode cX12_init 8 = .ok (.putfield 7, 3) := by decide +kernel
theorem dX12_init_11 : decode cX12_init 11 = .ok (.aload_n 0, 1) := by decide +kernel
theorem dX12_init_12 : decode cX12_init 12 = .ok (.iconst (-1), 1) := by decide +kernel
theorem dX12_init_13 : decode cX12_init 13 = .ok (.putfield 17, 3) := by decide +kernel
theorem dX12_init_16 : decode cX12_init 16 = .ok (.aload_n 0, 1) := by decide +kernel
theorem dX12_init_17 : decode cX12_init 17 = .ok (.sipush 600, 3) := by decide +kernel
theorem dX12_init_20 : decode cX12_init 20 = .ok (.newarray .int, 2) := by decide +kernel
theorem dX12_init_22 : decode cX12_init 22 = .ok (.putfield 20, 3) := by decide +kernel
theorem dX12_init_25 : decode cX12_init 25 = .ok (.aload_n 0, 1) := by decide +kernel
theorem dX12_init_26 : decode cX12_init 26 = .ok (.bipush 42, 2) := by decide +kernel
theorem dX12_init_28 : decode cX12_init 28 = .ok (.newarray .int, 2) := by decide +kernel
theorem dX12_init_30 : decode cX12_init 30 = .ok (.putfield 23, 3) := by decide +kernel
theorem dX12_init_33 : decode cX12_init 33 = .ok (.aload_n 0, 1) := by decide +kernel
theorem dX12_init_34 : decode cX12_init 34 = .ok (.bipush 16, 2) := by decide +kernel
theorem dX12_init_36 : decode cX12_init 36 = .ok (.newarray .int, 2) := by decide +kernel
theorem dX12_init_38 : decode cX12_init 38 = .ok (.putfield 26, 3) := by decide +kernel
theorem dX12_init_41 : decode cX12_init 41 = .ok (.aload_n 0, 1) := by decide +kernel
theorem dX12_init_42 : decode cX12_init 42 = .ok (.bipush 42, 2) := by decide +kernel
theorem dX12_init_44 : decode cX12_init 44 = .ok (.newarray .int, 2) := by decide +kernel
theorem dX12_init_46 : decode cX12_init 46 = .ok (.putfield 29, 3) := by decide +kernel
theorem dX12_init_49 : decode cX12_init 49 = .ok (.aload_n 0, 1) := by decide +kernel
theorem dX12_init_50 : decode cX12_init 50 = .ok (.bipush 16, 2) := by decide +kernel
theorem dX12_init_52 : decode cX12_init 52 = .ok (.newarray .int, 2) := by decide +kernel
theorem dX12_init_54 : decode cX12_init 54 = .ok (.putfield 32, 3) := by decide +kernel
theorem dX12_init_57 : decode cX12_init 57 = .ok (.aload_n 0, 1) := by decide +kernel
theorem dX12_init_58 : decode cX12_init 58 = .ok (.sipush 150, 3) := by decide +kernel
theorem dX12_init_61 : decode cX12_init 61 = .ok (.newarray .int, 2) := by decide +kernel
theorem dX12_init_63 : decode cX12_init 63 = .ok (.putfield 35, 3) := by decide +kernel
theorem dX12_init_66 : decode cX12_init 66 = .ok (.aload_n 0, 1) := by decide +kernel
theorem dX12_init_67 : decode cX12_init 67 = .ok (.sipush 150, 3) := by decide +kernel
theorem dX12_init_70 : decode cX12_init 70 = .ok (.newarray .int, 2) := by decide +kernel
theorem dX12_init_72 : decode cX12_init 72 = .ok (.putfield 38, 3) := by decide +kernel
theorem dX12_init_75 : decode cX12_init 75 = .ok (.aload_n 0, 1) := by decide +kernel
theorem dX12_init_76 : decode cX12_init 76 = .ok (.sipush 150, 3) := by decide +kernel
theorem dX12_init_79 : decode cX12_init 79 = .ok (.newarray .int, 2) := by decide +kernel
theorem dX12_init_81 : decode cX12_init 81 = .ok (.putfield 41, 3) := by decide +kernel
theorem dX12_init_84 : decode cX12_init 84 = .ok (.aload_n 0, 1) := by decide +kernel
theorem dX12_init_85 : decode cX12_init 85 = .ok (.sipush 150, 3) := by decide +kernel
theorem dX12_init_88 : decode cX12_init 88 = .ok (.newarray .int, 2) := by decide +kernel
theorem dX12_init_90 : decode cX12_init 90 = .ok (.putfield 44, 3) := by decide +kernel
theorem dX12_init_93 : decode cX12_init 93 = .ok (.aload_n 0, 1) := by decide +kernel
theorem dX12_init_94 : decode cX12_init 94 = .ok (.sipush 150, 3) := by decide +kernel
theorem dX12_init_97 : decode cX12_init 97 = .ok (.newarray .int, 2) := by decide +kernel
theorem dX12_init_99 : decode cX12_init 99 = .ok (.putfield 47, 3) := by decide +kernel
theorem dX12_init_102 : decode cX12_init 102 = .ok (.aload_n 0, 1) := by decide +kernel
theorem dX12_init_103 : decode cX12_init 103 = .ok (.bipush 8, 2) := by decide +kernel
theorem dX12_init_105 : decode cX12_init 105 = .ok (.newarray .int, 2) := by decide +kernel
theorem dX12_init_107 : decode cX12_init 107 = .ok (.putfield 50, 3) := by decide +kernel
theorem dX12_init_110 : decode cX12_init 110 = .ok (.aload_n 0, 1) := by decide +kernel
theorem dX12_init_111 : decode cX12_init 111 = .ok (.sipush 200, 3) := by decide +kernel
theorem dX12_init_114 : decode cX12_init 114 = .ok (.newarray .int, 2) := by decide +kernel
theorem dX12_init_116 : decode cX12_init 116 = .ok (.putfield 53, 3) := by decide +kernel
theorem dX12_init_119 : decode cX12_init 119 = .ok (.aload_n 0, 1) := by decide +kernel
theorem dX12_init_120 : decode cX12_init 120 = .ok (.sipush 200, 3) := by decide +kernel
theorem dX12_init_123 : decode cX12_init 123 = .ok (.newarray .int, 2) := by decide +kernel
theorem dX12_init_125 : decode cX12_init 125 = .ok (.putfield 56, 3) := by decide +kernel
theorem dX12_init_128 : decode cX12_init 128 = .ok (.aload_n 0, 1) := by decide +kernel
theorem dX12_init_129 : decode cX12_init 129 = .ok (.sipush 175, 3) := by decide +kernel
theorem dX12_init_132 : decode cX12_init 132 = .ok (.newarray .int, 2) := by decide +kernel
theorem dX12_init_134 : decode cX12_init 134 = .ok (.putfield 59, 3) := by decide +kernel
theorem dX12_init_137 : decode cX12_init 137 = .ok (.aload_n 0, 1) := by decide +kernel
theorem dX12_init_138 : decode cX12_init 138 = .ok (.sipush 175, 3) := by decide +kernel
theorem dX12_init_141 : decode cX12_init 141 = .ok (.newarray .int, 2) := by decide +kernel
theorem dX12_init_143 : decode cX12_init 143 = .ok (.putfield 62, 3) := by decide +kernel
theorem dX12_init_146 : decode cX12_init 146 = .ok (.aload_n 0, 1) := by decide +kernel
theorem dX12_init_147 : decode cX12_init 147 = .ok (.sipush 2800, 3) := by decide +kernel
theorem dX12_init_150 : decode cX12_init 150 = .ok (.newarray .int, 2) := by decide +kernel
theorem dX12_init_152 : decode cX12_init 152 = .ok (.putfield 65, 3) := by decide +kernel
theorem dX12_init_155 : decode cX12_init 155 = .ok (.aload_n 0, 1) := by decide +kernel
theorem dX12_init_156 : decode cX12_init 156 = .ok (.bipush 7, 2) := by decide +kernel
theorem dX12_init_158 : decode cX12_init 158 = .ok (.newarray .int, 2) := by decide +kernel
theorem dX12_init_160 : decode cX12_init 160 = .ok (.putfield 68, 3) := by decide +kernel
theorem dX12_init_163 : decode cX12_init 163 = .ok (.aload_n 0, 1) := by decide +kernel
theorem dX12_init_164 : decode cX12_init 164 = .ok (.bipush 16, 2) := by decide +kernel
theorem dX12_init_166 : decode cX12_init 166 = .ok (.newarray .int, 2) := by decide +kernel
theorem dX12_init_168 : decode cX12_init 168 = .ok (.putfield 71, 3) := by decide +kernel
theorem dX12_init_171 : decode cX12_init 171 = .ok (.aload_n 0, 1) := by decide +kernel
theorem dX12_init_172 : decode cX12_init 172 = .ok (.bipush 16, 2) := by decide +kernel
theorem dX12_init_174 : decode cX12_init 174 = .ok (.newarray .int, 2) := by decide +kernel
theorem dX12_init_176 : decode cX12_init 176 = .ok (.putfield 74, 3) := by decide +kernel
theorem dX12_init_179 : decode cX12_init 179 = .ok (.aload_n 0, 1) := by decide +kernel
theorem dX12_init_180 : decode cX12_init 180 = .ok (.bipush 48, 2) := by decide +kernel
theorem dX12_init_182 : decode cX12_init 182 = .ok (.newarray .int, 2) := by decide +kernel
theorem dX12_init_184 : decode cX12_init 184 = .ok (.putfield 77, 3) := by decide +kernel
theorem dX12_init_187 : decode cX12_init 187 = .ok (.aload_n 0, 1) := by decide +kernel
theorem dX12_init_188 : decode cX12_init 188 = .ok (.bipush 48, 2) := by decide +kernel
theorem dX12_init_190 : decode cX12_init 190 = .ok (.newarray .int, 2) := by decide +kernel
theorem dX12_init_192 : decode cX12_init 192 = .ok (.putfield 80, 3) := by decide +kernel
theorem dX12_init_195 : decode cX12_init 195 = .ok (.aload_n 0, 1) := by decide +kernel
theorem dX12_init_196 : decode cX12_init 196 = .ok (.sipush 4752, 3) := by decide +kernel
theorem dX12_init_199 : decode cX12_init 199 = .ok (.newarray .int, 2) := by decide +kernel
theorem dX12_init_201 : decode cX12_init 201 = .ok (.putfield 83, 3) := by decide +kernel
theorem dX12_init_204 : decode cX12_init 204 = .ok (.aload_n 0, 1) := by decide +kernel
theorem dX12_init_205 : decode cX12_init 205 = .ok (.sipush 8928, 3) := by decide +kernel
theorem dX12_init_208 : decode cX12_init 208 = .ok (.newarray .int, 2) := by decide +kernel
theorem dX12_init_210 : decode cX12_init 210 = .ok (.putfield 86, 3) := by decide +kernel
theorem dX12_init_213 : decode cX12_init 213 = .ok (.aload_n 0, 1) := by decide +kernel
theorem dX12_init_214 : decode cX12_init 214 = .ok (.invokevirtual 89, 3) := by decide +kernel
theorem dX12_init_217 : decode cX12_init 217 = .ok (.aload_n 0, 1) := by decide +kernel
theorem dX12_init_218 : decode cX12_init 218 = .ok (.invokevirtual 92, 3) := by decide +kernel
theorem dX12_init_221 : decode cX12_init 221 = .ok (.return_, 1) := by decide +kernel
theorem fg_X8_9 : FG RX8 9 8 0 := ⟨RX8, TX8, 6, tyX8, rfl, rfl, by decide, inU_X8, (inBi 135 (by decide +kernel)), tyX8_ok, nmX8, rfl, rfl, .array .int, by decide +kernel, fun _ => ⟨rfl, rfl⟩⟩
theorem fg_X1_9 : FG RX1 9 1 0 := ⟨RX1, TX1, 6, tyX1, rfl, rfl, by decide, inU_X1, (inBi 164 (by decide +kernel)), tyX1_ok, nmX1, rfl, rfl, .array .int, by decide +kernel, fun _ => ⟨rfl, rfl⟩⟩
theorem fg_X1_15 : FG RX1 15 1 1 := ⟨RX1, TX1, 6, tyX1, rfl, rfl, by decide, inU_X1, (inBi 166 (by decide +kernel)), tyX1_ok, nmX1, rfl, rfl, .array .int, by decide +kernel, fun _ => ⟨rfl, rfl⟩⟩
theorem fg_X1_18 : FG RX1 18 1 2 := ⟨RX1, TX1, 6, tyX1, rfl, rfl, by decide, inU_X1, (inBi 169 (by decide +kernel)), tyX1_ok, nmX1, rfl, rfl, .array .int, by decide +kernel, fun _ => ⟨rfl, rfl⟩⟩
theorem fg_X4_9 : FG RX4 9 4 0 := ⟨RX4, TX4, 3, tyX4, rfl, rfl, by decide, inU_X4, (inBi 208 (by decide +kernel)), tyX4_ok, nmX4, rfl, rfl, .array .int, by decide +kernel, fun _ => ⟨rfl, rfl⟩⟩
theorem fg_X4_15 : FG RX4 15 4 1 := ⟨RX4, TX4, 3, tyX4, rfl, rfl, by decide, inU_X4, (inBi 209 (by decide +kernel)), tyX4_ok, nmX4, rfl, rfl, .array .int, by decide +kernel, fun _ => ⟨rfl, rfl⟩⟩
theorem mv_X4_18 : MV RX4 18 yX4_becomePlain cX4_becomePlain 1 none 0 := ⟨(inBi 204 (by decide +kernel)), (inBi 205 (by decide +kernel)), (inBi 206 (by decide +kernel)), (inBi 98 (by decide +kernel)), cw_X4_becomePlain, by decide +kernel, by decide +kernel, by decide +kernel⟩
theorem fg_X0_9 : FG RX0 9 0 0 := ⟨RX0, TX0, 3, tyX0, rfl, rfl, by decide, inU_X0, (inBi 224 (by decide +kernel)), tyX0_ok, nmX0, rfl, rfl, .array .int, by decide +kernel, fun _ => ⟨rfl, rfl⟩⟩
theorem fg_X0_15 : FG RX0 15 0 1 := ⟨RX0, TX0, 3, tyX0, rfl, rfl, by decide, inU_X0, (inBi 225 (by decide +kernel)), tyX0_ok, nmX0, rfl, rfl, .array .int, by decide +kernel, fun _ => ⟨rfl, rfl⟩⟩
theorem fg_X5_9 : FG RX5 9 5 0 := ⟨RX5, TX5, 5, tyX5, rfl, rfl, by decide, inU_X5, (inBi 241 (by decide +kernel)), tyX5_ok, nmX5, rfl, rfl, .object "PartedFellows$College", by decide +kernel, fun _ => ⟨rfl, rfl⟩⟩
theorem fg_X5_15 : FG RX5 15 5 1 := ⟨RX5, TX5, 5, tyX5, rfl, rfl, by decide, inU_X5, (inBi 242 (by decide +kernel)), tyX5_ok, nmX5, rfl, rfl, .object "PartedFellows$Law", by decide +kernel, fun _ => ⟨rfl, rfl⟩⟩
theorem fg_X5_21 : FG RX5 21 5 2 := ⟨RX5, TX5, 5, tyX5, rfl, rfl, by decide, inU_X5, (inBi 243 (by decide +kernel)), tyX5_ok, nmX5, rfl, rfl, .array .int, by decide +kernel, fun _ => ⟨rfl, rfl⟩⟩
theorem fg_X5_25 : FG RX5 25 5 3 := ⟨RX5, TX5, 5, tyX5, rfl, rfl, by decide, inU_X5, (inBi 245 (by decide +kernel)), tyX5_ok, nmX5, rfl, rfl, .array .int, by decide +kernel, fun _ => ⟨rfl, rfl⟩⟩
theorem fg_X5_28 : FG RX5 28 5 4 := ⟨RX5, TX5, 5, tyX5, rfl, rfl, by decide, inU_X5, (inBi 246 (by decide +kernel)), tyX5_ok, nmX5, rfl, rfl, .array .int, by decide +kernel, fun _ => ⟨rfl, rfl⟩⟩
theorem fg_X2_9 : FG RX2 9 2 0 := ⟨RX2, TX2, 6, tyX2, rfl, rfl, by decide, inU_X2, (inBi 310 (by decide +kernel)), tyX2_ok, nmX2, rfl, rfl, .array .int, by decide +kernel, fun _ => ⟨rfl, rfl⟩⟩
theorem fg_X2_15 : FG RX2 15 2 1 := ⟨RX2, TX2, 6, tyX2, rfl, rfl, by decide, inU_X2, (inBi 313 (by decide +kernel)), tyX2_ok, nmX2, rfl, rfl, .array .int, by decide +kernel, fun _ => ⟨rfl, rfl⟩⟩
theorem fg_X2_18 : FG RX2 18 2 2 := ⟨RX2, TX2, 6, tyX2, rfl, rfl, by decide, inU_X2, (inBi 317 (by decide +kernel)), tyX2_ok, nmX2, rfl, rfl, .array .int, by decide +kernel, fun _ => ⟨rfl, rfl⟩⟩
theorem fg_X2_21 : FG RX2 21 2 3 := ⟨RX2, TX2, 6, tyX2, rfl, rfl, by decide, inU_X2, (inBi 321 (by decide +kernel)), tyX2_ok, nmX2, rfl, rfl, .array .int, by decide +kernel, fun _ => ⟨rfl, rfl⟩⟩
theorem fg_X2_24 : FG RX2 24 2 4 := ⟨RX2, TX2, 6, tyX2, rfl, rfl, by decide, inU_X2, (inBi 324 (by decide +kernel)), tyX2_ok, nmX2, rfl, rfl, .array .int, by decide +kernel, fun _ => ⟨rfl, rfl⟩⟩
theorem fg_X7_11 : FG RX7 11 7 0 := ⟨RX7, TX7, 2, tyX7, rfl, rfl, by decide, inU_X7, (inBi 353 (by decide +kernel)), tyX7_ok, nmX7, rfl, rfl, .array (.object "PartedFellows$Hall"), by decide +kernel, fun _ => ⟨rfl, rfl⟩⟩
set_option maxRecDepth 20000 in
theorem mi_X7_17 : MI RX7 17 yX2_init cX2_init 1 0 := ⟨(inBi 352 (by decide +kernel)), (inBi 307 (by decide +kernel)), (inBi 102 (by decide +kernel)), inB (List.mem_of_getElem? (i := 308) rfl) rfl, rfl, by decide +kernel, by decide +kernel, by decide +kernel⟩
set_option maxRecDepth 20000 in
theorem mi_X3_9 : MI RX3 9 yX2_init cX2_init 1 0 := ⟨(inBi 369 (by decide +kernel)), (inBi 307 (by decide +kernel)), (inBi 102 (by decide +kernel)), inB (List.mem_of_getElem? (i := 308) rfl) rfl, rfl, by decide +kernel, by decide +kernel, by decide +kernel⟩
theorem fg_X3_10 : FG RX3 10 3 0 := ⟨RX3, TX3, 2, tyX3, rfl, rfl, by decide, inU_X3, (inBi 372 (by decide +kernel)), tyX3_ok, nmX3, rfl, rfl, .object "PartedFellows$Hall", by decide +kernel, fun _ => ⟨rfl, rfl⟩⟩
set_option maxRecDepth 20000 in
theorem mi_X3_18 : MI RX3 18 yX7_init cX7_init 2 0 := ⟨(inBi 371 (by decide +kernel)), (inBi 347 (by decide +kernel)), (inBi 103 (by decide +kernel)), inB (List.mem_of_getElem? (i := 348) rfl) rfl, rfl, by decide +kernel, by decide +kernel, by decide +kernel⟩
theorem fg_X3_19 : FG RX3 19 3 1 := ⟨RX3, TX3, 2, tyX3, rfl, rfl, by decide, inU_X3, (inBi 374 (by decide +kernel)), tyX3_ok, nmX3, rfl, rfl, .object "PartedFellows$Past", by decide +kernel, fun _ => ⟨rfl, rfl⟩⟩
theorem fg_X10_9 : FG RX10 9 10 0 := ⟨RX10, TX10, 12, tyX10, rfl, rfl, by decide, inU_X10, (inBi 264 (by decide +kernel)), tyX10_ok, nmX10, rfl, rfl, .object "PartedFellows$Tape", by decide +kernel, fun _ => ⟨rfl, rfl⟩⟩
theorem fg_X10_15 : FG RX10 15 10 1 := ⟨RX10, TX10, 12, tyX10, rfl, rfl, by decide, inU_X10, (inBi 265 (by decide +kernel)), tyX10_ok, nmX10, rfl, rfl, .object "PartedFellows$College", by decide +kernel, fun _ => ⟨rfl, rfl⟩⟩
theorem fg_X10_19 : FG RX10 19 10 2 := ⟨RX10, TX10, 12, tyX10, rfl, rfl, by decide, inU_X10, (inBi 266 (by decide +kernel)), tyX10_ok, nmX10, rfl, rfl, .object "PartedFellows$Optics", by decide +kernel, fun _ => ⟨rfl, rfl⟩⟩
theorem fg_X10_23 : FG RX10 23 10 3 := ⟨RX10, TX10, 12, tyX10, rfl, rfl, by decide, inU_X10, (inBi 267 (by decide +kernel)), tyX10_ok, nmX10, rfl, rfl, .array .int, by decide +kernel, fun _ => ⟨rfl, rfl⟩⟩
theorem fg_X10_27 : FG RX10 27 10 4 := ⟨RX10, TX10, 12, tyX10, rfl, rfl, by decide, inU_X10, (inBi 268 (by decide +kernel)), tyX10_ok, nmX10, rfl, rfl, .array .int, by decide +kernel, fun _ => ⟨rfl, rfl⟩⟩
theorem fg_X10_30 : FG RX10 30 10 5 := ⟨RX10, TX10, 12, tyX10, rfl, rfl, by decide, inU_X10, (inBi 269 (by decide +kernel)), tyX10_ok, nmX10, rfl, rfl, .array .int, by decide +kernel, fun _ => ⟨rfl, rfl⟩⟩
theorem fg_X10_33 : FG RX10 33 10 6 := ⟨RX10, TX10, 12, tyX10, rfl, rfl, by decide, inU_X10, (inBi 270 (by decide +kernel)), tyX10_ok, nmX10, rfl, rfl, .array .int, by decide +kernel, fun _ => ⟨rfl, rfl⟩⟩
theorem fg_X10_36 : FG RX10 36 10 7 := ⟨RX10, TX10, 12, tyX10, rfl, rfl, by decide, inU_X10, (inBi 271 (by decide +kernel)), tyX10_ok, nmX10, rfl, rfl, .array .int, by decide +kernel, fun _ => ⟨rfl, rfl⟩⟩
theorem fg_X6_9 : FG RX6 9 6 0 := ⟨RX6, TX6, 8, tyX6, rfl, rfl, by decide, inU_X6, (inBi 391 (by decide +kernel)), tyX6_ok, nmX6, rfl, rfl, .object "PartedFellows$College", by decide +kernel, fun _ => ⟨rfl, rfl⟩⟩
theorem fg_X6_15 : FG RX6 15 6 1 := ⟨RX6, TX6, 8, tyX6, rfl, rfl, by decide, inU_X6, (inBi 392 (by decide +kernel)), tyX6_ok, nmX6, rfl, rfl, .object "PartedFellows$Book", by decide +kernel, fun _ => ⟨rfl, rfl⟩⟩
theorem fg_X6_19 : FG RX6 19 6 2 := ⟨RX6, TX6, 8, tyX6, rfl, rfl, by decide, inU_X6, (inBi 393 (by decide +kernel)), tyX6_ok, nmX6, rfl, rfl, .object "PartedFellows$Optics", by decide +kernel, fun _ => ⟨rfl, rfl⟩⟩
set_option maxRecDepth 20000 in
theorem mi_X6_25 : MI RX6 25 yX2_init cX2_init 1 0 := ⟨(inBi 388 (by decide +kernel)), (inBi 307 (by decide +kernel)), (inBi 102 (by decide +kernel)), inB (List.mem_of_getElem? (i := 308) rfl) rfl, rfl, by decide +kernel, by decide +kernel, by decide +kernel⟩
theorem fg_X6_26 : FG RX6 26 6 3 := ⟨RX6, TX6, 8, tyX6, rfl, rfl, by decide, inU_X6, (inBi 394 (by decide +kernel)), tyX6_ok, nmX6, rfl, rfl, .object "PartedFellows$Hall", by decide +kernel, fun _ => ⟨rfl, rfl⟩⟩
theorem fg_X6_32 : FG RX6 32 6 4 := ⟨RX6, TX6, 8, tyX6, rfl, rfl, by decide, inU_X6, (inBi 395 (by decide +kernel)), tyX6_ok, nmX6, rfl, rfl, .array (.array .int), by decide +kernel, fun _ => ⟨rfl, rfl⟩⟩
theorem fg_X6_35 : FG RX6 35 6 5 := ⟨RX6, TX6, 8, tyX6, rfl, rfl, by decide, inU_X6, (inBi 396 (by decide +kernel)), tyX6_ok, nmX6, rfl, rfl, .array .int, by decide +kernel, fun _ => ⟨rfl, rfl⟩⟩
theorem fg_X9_9 : FG RX9 9 9 0 := ⟨RX9, TX9, 4, tyX9, rfl, rfl, by decide, inU_X9, (inBi 426 (by decide +kernel)), tyX9_ok, nmX9, rfl, rfl, .object "PartedFellows$College", by decide +kernel, fun _ => ⟨rfl, rfl⟩⟩
theorem fg_X9_15 : FG RX9 15 9 1 := ⟨RX9, TX9, 4, tyX9, rfl, rfl, by decide, inU_X9, (inBi 427 (by decide +kernel)), tyX9_ok, nmX9, rfl, rfl, .object "PartedFellows$Optics", by decide +kernel, fun _ => ⟨rfl, rfl⟩⟩
set_option maxRecDepth 20000 in
theorem mi_X9_21 : MI RX9 21 yX2_init cX2_init 1 0 := ⟨(inBi 425 (by decide +kernel)), (inBi 307 (by decide +kernel)), (inBi 102 (by decide +kernel)), inB (List.mem_of_getElem? (i := 308) rfl) rfl, rfl, by decide +kernel, by decide +kernel, by decide +kernel⟩
theorem fg_X9_22 : FG RX9 22 9 2 := ⟨RX9, TX9, 4, tyX9, rfl, rfl, by decide, inU_X9, (inBi 428 (by decide +kernel)), tyX9_ok, nmX9, rfl, rfl, .object "PartedFellows$Hall", by decide +kernel, fun _ => ⟨rfl, rfl⟩⟩
set_option maxRecDepth 20000 in
theorem mi_X11_11 : MI RX11 11 yX8_init cX8_init 1 0 := ⟨(inBi 131 (by decide +kernel)), (inBi 132 (by decide +kernel)), (inBi 96 (by decide +kernel)), inB (List.mem_of_getElem? (i := 133) rfl) rfl, rfl, by decide +kernel, by decide +kernel, by decide +kernel⟩
theorem fg_X11_12 : FG RX11 12 11 0 := ⟨RX11, TX11, 18, tyX11, rfl, rfl, by decide, inU_X11, (inBi 440 (by decide +kernel)), tyX11_ok, nmX11, rfl, rfl, .object "PartedFellows$Tape", by decide +kernel, fun _ => ⟨rfl, rfl⟩⟩
set_option maxRecDepth 20000 in
theorem mi_X11_18 : MI RX11 18 yX1_init cX1_init 1 0 := ⟨(inBi 160 (by decide +kernel)), (inBi 161 (by decide +kernel)), (inBi 97 (by decide +kernel)), inB (List.mem_of_getElem? (i := 162) rfl) rfl, rfl, by decide +kernel, by decide +kernel, by decide +kernel⟩
theorem fg_X11_19 : FG RX11 19 11 1 := ⟨RX11, TX11, 18, tyX11, rfl, rfl, by decide, inU_X11, (inBi 441 (by decide +kernel)), tyX11_ok, nmX11, rfl, rfl, .object "PartedFellows$College", by decide +kernel, fun _ => ⟨rfl, rfl⟩⟩
theorem fg_X11_23 : FG RX11 23 11 2 := ⟨RX11, TX11, 18, tyX11, rfl, rfl, by decide, inU_X11, (inBi 442 (by decide +kernel)), tyX11_ok, nmX11, rfl, rfl, .object "PartedFellows$College", by decide +kernel, fun _ => ⟨rfl, rfl⟩⟩
set_option maxRecDepth 20000 in
theorem mi_X11_28 : MI RX11 28 yX4_init cX4_init 1 0 := ⟨(inBi 200 (by decide +kernel)), (inBi 201 (by decide +kernel)), (inBi 98 (by decide +kernel)), inB (List.mem_of_getElem? (i := 202) rfl) rfl, rfl, by decide +kernel, by decide +kernel, by decide +kernel⟩
theorem fg_X11_29 : FG RX11 29 11 3 := ⟨RX11, TX11, 18, tyX11, rfl, rfl, by decide, inU_X11, (inBi 443 (by decide +kernel)), tyX11_ok, nmX11, rfl, rfl, .object "PartedFellows$Law", by decide +kernel, fun _ => ⟨rfl, rfl⟩⟩
theorem fg_X11_33 : FG RX11 33 11 4 := ⟨RX11, TX11, 18, tyX11, rfl, rfl, by decide, inU_X11, (inBi 444 (by decide +kernel)), tyX11_ok, nmX11, rfl, rfl, .object "PartedFellows$Law", by decide +kernel, fun _ => ⟨rfl, rfl⟩⟩
set_option maxRecDepth 20000 in
theorem mi_X11_38 : MI RX11 38 yX0_init cX0_init 1 0 := ⟨(inBi 220 (by decide +kernel)), (inBi 221 (by decide +kernel)), (inBi 99 (by decide +kernel)), inB (List.mem_of_getElem? (i := 222) rfl) rfl, rfl, by decide +kernel, by decide +kernel, by decide +kernel⟩
theorem fg_X11_39 : FG RX11 39 11 5 := ⟨RX11, TX11, 18, tyX11, rfl, rfl, by decide, inU_X11, (inBi 445 (by decide +kernel)), tyX11_ok, nmX11, rfl, rfl, .object "PartedFellows$Book", by decide +kernel, fun _ => ⟨rfl, rfl⟩⟩
theorem fg_X11_43 : FG RX11 43 11 6 := ⟨RX11, TX11, 18, tyX11, rfl, rfl, by decide, inU_X11, (inBi 446 (by decide +kernel)), tyX11_ok, nmX11, rfl, rfl, .object "PartedFellows$Book", by decide +kernel, fun _ => ⟨rfl, rfl⟩⟩
set_option maxRecDepth 20000 in
theorem mi_X11_48 : MI RX11 48 yX5_init cX5_init 3 2 := ⟨(inBi 237 (by decide +kernel)), (inBi 238 (by decide +kernel)), (inBi 100 (by decide +kernel)), inB (List.mem_of_getElem? (i := 239) rfl) rfl, rfl, by decide +kernel, by decide +kernel, by decide +kernel⟩
theorem fg_X11_51 : FG RX11 51 11 7 := ⟨RX11, TX11, 18, tyX11, rfl, rfl, by decide, inU_X11, (inBi 447 (by decide +kernel)), tyX11_ok, nmX11, rfl, rfl, .object "PartedFellows$Optics", by decide +kernel, fun _ => ⟨rfl, rfl⟩⟩
set_option maxRecDepth 20000 in
theorem mi_X11_57 : MI RX11 57 yX10_init cX10_init 4 3 := ⟨(inBi 260 (by decide +kernel)), (inBi 261 (by decide +kernel)), (inBi 101 (by decide +kernel)), inB (List.mem_of_getElem? (i := 262) rfl) rfl, rfl, by decide +kernel, by decide +kernel, by decide +kernel⟩
theorem fg_X11_60 : FG RX11 60 11 8 := ⟨RX11, TX11, 18, tyX11, rfl, rfl, by decide, inU_X11, (inBi 448 (by decide +kernel)), tyX11_ok, nmX11, rfl, rfl, .object "PartedFellows$Work", by decide +kernel, fun _ => ⟨rfl, rfl⟩⟩
set_option maxRecDepth 20000 in
theorem mi_X11_66 : MI RX11 66 yX2_init cX2_init 1 0 := ⟨(inBi 306 (by decide +kernel)), (inBi 307 (by decide +kernel)), (inBi 102 (by decide +kernel)), inB (List.mem_of_getElem? (i := 308) rfl) rfl, rfl, by decide +kernel, by decide +kernel, by decide +kernel⟩
theorem fg_X11_67 : FG RX11 67 11 9 := ⟨RX11, TX11, 18, tyX11, rfl, rfl, by decide, inU_X11, (inBi 449 (by decide +kernel)), tyX11_ok, nmX11, rfl, rfl, .object "PartedFellows$Hall", by decide +kernel, fun _ => ⟨rfl, rfl⟩⟩
set_option maxRecDepth 20000 in
theorem mi_X11_73 : MI RX11 73 yX7_init cX7_init 2 0 := ⟨(inBi 346 (by decide +kernel)), (inBi 347 (by decide +kernel)), (inBi 103 (by decide +kernel)), inB (List.mem_of_getElem? (i := 348) rfl) rfl, rfl, by decide +kernel, by decide +kernel, by decide +kernel⟩
theorem fg_X11_74 : FG RX11 74 11 10 := ⟨RX11, TX11, 18, tyX11, rfl, rfl, by decide, inU_X11, (inBi 450 (by decide +kernel)), tyX11_ok, nmX11, rfl, rfl, .object "PartedFellows$Past", by decide +kernel, fun _ => ⟨rfl, rfl⟩⟩
theorem fg_X11_80 : FG RX11 80 11 11 := ⟨RX11, TX11, 18, tyX11, rfl, rfl, by decide, inU_X11, (inBi 451 (by decide +kernel)), tyX11_ok, nmX11, rfl, rfl, .array (.object "PartedFellows$Image"), by decide +kernel, fun _ => ⟨rfl, rfl⟩⟩
set_option maxRecDepth 20000 in
theorem mi_X11_84 : MI RX11 84 yX3_init cX3_init 1 0 := ⟨(inBi 364 (by decide +kernel)), (inBi 365 (by decide +kernel)), (inBi 104 (by decide +kernel)), inB (List.mem_of_getElem? (i := 366) rfl) rfl, rfl, by decide +kernel, by decide +kernel, by decide +kernel⟩
set_option maxRecDepth 20000 in
theorem mi_X11_87 : MI RX11 87 yX6_init cX6_init 4 3 := ⟨(inBi 383 (by decide +kernel)), (inBi 384 (by decide +kernel)), (inBi 105 (by decide +kernel)), inB (List.mem_of_getElem? (i := 385) rfl) rfl, rfl, by decide +kernel, by decide +kernel, by decide +kernel⟩
theorem fg_X11_90 : FG RX11 90 11 14 := ⟨RX11, TX11, 18, tyX11, rfl, rfl, by decide, inU_X11, (inBi 454 (by decide +kernel)), tyX11_ok, nmX11, rfl, rfl, .object "PartedFellows$Pairs", by decide +kernel, fun _ => ⟨rfl, rfl⟩⟩
set_option maxRecDepth 20000 in
theorem mi_X11_96 : MI RX11 96 yX9_init cX9_init 3 2 := ⟨(inBi 420 (by decide +kernel)), (inBi 421 (by decide +kernel)), (inBi 106 (by decide +kernel)), inB (List.mem_of_getElem? (i := 422) rfl) rfl, rfl, by decide +kernel, by decide +kernel, by decide +kernel⟩
theorem fg_X11_99 : FG RX11 99 11 15 := ⟨RX11, TX11, 18, tyX11, rfl, rfl, by decide, inU_X11, (inBi 455 (by decide +kernel)), tyX11_ok, nmX11, rfl, rfl, .object "PartedFellows$Term", by decide +kernel, fun _ => ⟨rfl, rfl⟩⟩
theorem fg_X12_7 : FG RX12 7 12 1 := ⟨RX12, TX12, 50, tyX12, rfl, rfl, by decide, inU_X12, (inBi 1358 (by decide +kernel)), tyX12_ok, nmX12, rfl, rfl, .array .int, by decide +kernel, fun _ => ⟨rfl, rfl⟩⟩
theorem fg_X12_20 : FG RX12 20 12 9 := ⟨RX12, TX12, 50, tyX12, rfl, rfl, by decide, inU_X12, (inBi 1366 (by decide +kernel)), tyX12_ok, nmX12, rfl, rfl, .array .int, by decide +kernel, fun _ => ⟨rfl, rfl⟩⟩
theorem fg_X12_23 : FG RX12 23 12 10 := ⟨RX12, TX12, 50, tyX12, rfl, rfl, by decide, inU_X12, (inBi 1367 (by decide +kernel)), tyX12_ok, nmX12, rfl, rfl, .array .int, by decide +kernel, fun _ => ⟨rfl, rfl⟩⟩
theorem fg_X12_26 : FG RX12 26 12 11 := ⟨RX12, TX12, 50, tyX12, rfl, rfl, by decide, inU_X12, (inBi 1368 (by decide +kernel)), tyX12_ok, nmX12, rfl, rfl, .array .int, by decide +kernel, fun _ => ⟨rfl, rfl⟩⟩
theorem fg_X12_29 : FG RX12 29 12 12 := ⟨RX12, TX12, 50, tyX12, rfl, rfl, by decide, inU_X12, (inBi 1369 (by decide +kernel)), tyX12_ok, nmX12, rfl, rfl, .array .int, by decide +kernel, fun _ => ⟨rfl, rfl⟩⟩
theorem fg_X12_32 : FG RX12 32 12 13 := ⟨RX12, TX12, 50, tyX12, rfl, rfl, by decide, inU_X12, (inBi 1370 (by decide +kernel)), tyX12_ok, nmX12, rfl, rfl, .array .int, by decide +kernel, fun _ => ⟨rfl, rfl⟩⟩
theorem fg_X12_35 : FG RX12 35 12 20 := ⟨RX12, TX12, 50, tyX12, rfl, rfl, by decide, inU_X12, (inBi 1377 (by decide +kernel)), tyX12_ok, nmX12, rfl, rfl, .array .int, by decide +kernel, fun _ => ⟨rfl, rfl⟩⟩
theorem fg_X12_38 : FG RX12 38 12 21 := ⟨RX12, TX12, 50, tyX12, rfl, rfl, by decide, inU_X12, (inBi 1378 (by decide +kernel)), tyX12_ok, nmX12, rfl, rfl, .array .int, by decide +kernel, fun _ => ⟨rfl, rfl⟩⟩
theorem fg_X12_41 : FG RX12 41 12 22 := ⟨RX12, TX12, 50, tyX12, rfl, rfl, by decide, inU_X12, (inBi 1379 (by decide +kernel)), tyX12_ok, nmX12, rfl, rfl, .array .int, by decide +kernel, fun _ => ⟨rfl, rfl⟩⟩
theorem fg_X12_44 : FG RX12 44 12 23 := ⟨RX12, TX12, 50, tyX12, rfl, rfl, by decide, inU_X12, (inBi 1380 (by decide +kernel)), tyX12_ok, nmX12, rfl, rfl, .array .int, by decide +kernel, fun _ => ⟨rfl, rfl⟩⟩
theorem fg_X12_47 : FG RX12 47 12 24 := ⟨RX12, TX12, 50, tyX12, rfl, rfl, by decide, inU_X12, (inBi 1381 (by decide +kernel)), tyX12_ok, nmX12, rfl, rfl, .array .int, by decide +kernel, fun _ => ⟨rfl, rfl⟩⟩
theorem fg_X12_50 : FG RX12 50 12 27 := ⟨RX12, TX12, 50, tyX12, rfl, rfl, by decide, inU_X12, (inBi 1384 (by decide +kernel)), tyX12_ok, nmX12, rfl, rfl, .array .int, by decide +kernel, fun _ => ⟨rfl, rfl⟩⟩
theorem fg_X12_53 : FG RX12 53 12 28 := ⟨RX12, TX12, 50, tyX12, rfl, rfl, by decide, inU_X12, (inBi 1385 (by decide +kernel)), tyX12_ok, nmX12, rfl, rfl, .array .int, by decide +kernel, fun _ => ⟨rfl, rfl⟩⟩
theorem fg_X12_56 : FG RX12 56 12 29 := ⟨RX12, TX12, 50, tyX12, rfl, rfl, by decide, inU_X12, (inBi 1386 (by decide +kernel)), tyX12_ok, nmX12, rfl, rfl, .array .int, by decide +kernel, fun _ => ⟨rfl, rfl⟩⟩
theorem fg_X12_59 : FG RX12 59 12 36 := ⟨RX12, TX12, 50, tyX12, rfl, rfl, by decide, inU_X12, (inBi 1393 (by decide +kernel)), tyX12_ok, nmX12, rfl, rfl, .array .int, by decide +kernel, fun _ => ⟨rfl, rfl⟩⟩
theorem fg_X12_62 : FG RX12 62 12 37 := ⟨RX12, TX12, 50, tyX12, rfl, rfl, by decide, inU_X12, (inBi 1394 (by decide +kernel)), tyX12_ok, nmX12, rfl, rfl, .array .int, by decide +kernel, fun _ => ⟨rfl, rfl⟩⟩
theorem fg_X12_65 : FG RX12 65 12 38 := ⟨RX12, TX12, 50, tyX12, rfl, rfl, by decide, inU_X12, (inBi 1395 (by decide +kernel)), tyX12_ok, nmX12, rfl, rfl, .array .int, by decide +kernel, fun _ => ⟨rfl, rfl⟩⟩
theorem fg_X12_68 : FG RX12 68 12 39 := ⟨RX12, TX12, 50, tyX12, rfl, rfl, by decide, inU_X12, (inBi 1396 (by decide +kernel)), tyX12_ok, nmX12, rfl, rfl, .array .int, by decide +kernel, fun _ => ⟨rfl, rfl⟩⟩
theorem fg_X12_71 : FG RX12 71 12 40 := ⟨RX12, TX12, 50, tyX12, rfl, rfl, by decide, inU_X12, (inBi 1397 (by decide +kernel)), tyX12_ok, nmX12, rfl, rfl, .array .int, by decide +kernel, fun _ => ⟨rfl, rfl⟩⟩
theorem fg_X12_74 : FG RX12 74 12 41 := ⟨RX12, TX12, 50, tyX12, rfl, rfl, by decide, inU_X12, (inBi 1398 (by decide +kernel)), tyX12_ok, nmX12, rfl, rfl, .array .int, by decide +kernel, fun _ => ⟨rfl, rfl⟩⟩
theorem fg_X12_77 : FG RX12 77 12 43 := ⟨RX12, TX12, 50, tyX12, rfl, rfl, by decide, inU_X12, (inBi 1400 (by decide +kernel)), tyX12_ok, nmX12, rfl, rfl, .array .int, by decide +kernel, fun _ => ⟨rfl, rfl⟩⟩
theorem fg_X12_80 : FG RX12 80 12 44 := ⟨RX12, TX12, 50, tyX12, rfl, rfl, by decide, inU_X12, (inBi 1401 (by decide +kernel)), tyX12_ok, nmX12, rfl, rfl, .array .int, by decide +kernel, fun _ => ⟨rfl, rfl⟩⟩
theorem fg_X12_83 : FG RX12 83 12 46 := ⟨RX12, TX12, 50, tyX12, rfl, rfl, by decide, inU_X12, (inBi 1403 (by decide +kernel)), tyX12_ok, nmX12, rfl, rfl, .array .int, by decide +kernel, fun _ => ⟨rfl, rfl⟩⟩
theorem fg_X12_86 : FG RX12 86 12 48 := ⟨RX12, TX12, 50, tyX12, rfl, rfl, by decide, inU_X12, (inBi 1405 (by decide +kernel)), tyX12_ok, nmX12, rfl, rfl, .array .int, by decide +kernel, fun _ => ⟨rfl, rfl⟩⟩
def kX8_init (B : Nat) (x0 : Nat) (cs : List RC) (mm : Mem) : Option (List RC × Mem) :=
  lt1 (cs ++ [(.inl 600 : RC)]) fun c1 =>
  (ptR c1 8 x0 0 cs.length).bind fun c2 =>
  (wI (shL B c2) mm 8 (B + x0) 5 (-1)).bind fun m3 =>
  some (c2, m3)
def kX1_init (B : Nat) (x0 : Nat) (cs : List RC) (mm : Mem) : Option (List RC × Mem) :=
  lt1 (cs ++ [(.inl 42 : RC)]) fun c1 =>
  (ptR c1 1 x0 0 cs.length).bind fun c2 =>
  lt1 (c2 ++ [(.inl 8 : RC)]) fun c3 =>
  (ptR c3 1 x0 1 c2.length).bind fun c4 =>
  lt1 (c4 ++ [(.inl 8 : RC)]) fun c5 =>
  (ptR c5 1 x0 2 c4.length).bind fun c6 =>
  (wI (shL B c6) mm 1 (B + x0) 5 60).bind fun m7 =>
  some (c6, m7)
def kX4_init (B : Nat) (x0 : Nat) (cs : List RC) (mm : Mem) : Option (List RC × Mem) :=
  lt1 (cs ++ [(.inl 151 : RC)]) fun c1 =>
  (ptR c1 4 x0 0 cs.length).bind fun c2 =>
  lt1 (c2 ++ [(.inl 151 : RC)]) fun c3 =>
  (ptR c3 4 x0 1 c2.length).bind fun c4 =>
  (isO (shL B c4) 4 (B + x0)).bind fun _ =>
  (fX4_becomePlain (shL B c4) (B + x0) mm).bind fun m5 =>
  some (c4, m5)
def kX0_init (B : Nat) (x0 : Nat) (cs : List RC) (mm : Mem) : Option (List RC × Mem) :=
  lt1 (cs ++ [(.inl 8 : RC)]) fun c1 =>
  (ptR c1 0 x0 0 cs.length).bind fun c2 =>
  lt1 (c2 ++ [(.inl 8 : RC)]) fun c3 =>
  (ptR c3 0 x0 1 c2.length).bind fun c4 =>
  some (c4, mm)
def kX5_init (B : Nat) (x0 : Nat) (x1 : Nat) (x2 : Nat) (cs : List RC) (mm : Mem) : Option (List RC × Mem) :=
  (ptR cs 5 x0 0 x1).bind fun c1 =>
  (ptR c1 5 x0 1 x2).bind fun c2 =>
  lt1 (c2 ++ [(.inl 8 : RC)]) fun c3 =>
  (ptR c3 5 x0 2 c2.length).bind fun c4 =>
  lt1 (c4 ++ [(.inl 7 : RC)]) fun c5 =>
  (ptR c5 5 x0 3 c4.length).bind fun c6 =>
  lt1 (c6 ++ [(.inl 8 : RC)]) fun c7 =>
  (ptR c7 5 x0 4 c6.length).bind fun c8 =>
  some (c8, mm)
def kX2_init (B : Nat) (x0 : Nat) (cs : List RC) (mm : Mem) : Option (List RC × Mem) :=
  lt1 (cs ++ [(.inl 42 : RC)]) fun c1 =>
  (ptR c1 2 x0 0 cs.length).bind fun c2 =>
  lt1 (c2 ++ [(.inl 42 : RC)]) fun c3 =>
  (ptR c3 2 x0 1 c2.length).bind fun c4 =>
  lt1 (c4 ++ [(.inl 42 : RC)]) fun c5 =>
  (ptR c5 2 x0 2 c4.length).bind fun c6 =>
  lt1 (c6 ++ [(.inl 42 : RC)]) fun c7 =>
  (ptR c7 2 x0 3 c6.length).bind fun c8 =>
  lt1 (c8 ++ [(.inl 6 : RC)]) fun c9 =>
  (ptR c9 2 x0 4 c8.length).bind fun c10 =>
  some (c10, mm)
def kX7_init (B : Nat) (x0 : Nat) (cs : List RC) (mm : Mem) : Option (List RC × Mem) :=
  lt1 (cs ++ [(.inr (.inr (0, 16, [])) : RC)]) fun c1 =>
  (ptR c1 7 x0 0 cs.length).bind fun c2 =>
  (gtR c2 7 x0 0).bind fun g3 =>
  lt1 (c2 ++ [(.inr (.inl (2, [])) : RC)]) fun c4 =>
  bd2 (kX2_init B c2.length c4 mm) fun c5 m6 =>
  (stR c5 g3 0 c2.length).bind fun c7 =>
  (gtR c7 7 x0 0).bind fun g8 =>
  lt1 (c7 ++ [(.inr (.inl (2, [])) : RC)]) fun c9 =>
  bd2 (kX2_init B c7.length c9 m6) fun c10 m11 =>
  (stR c10 g8 1 c7.length).bind fun c12 =>
  (gtR c12 7 x0 0).bind fun g13 =>
  lt1 (c12 ++ [(.inr (.inl (2, [])) : RC)]) fun c14 =>
  bd2 (kX2_init B c12.length c14 m11) fun c15 m16 =>
  (stR c15 g13 2 c12.length).bind fun c17 =>
  (gtR c17 7 x0 0).bind fun g18 =>
  lt1 (c17 ++ [(.inr (.inl (2, [])) : RC)]) fun c19 =>
  bd2 (kX2_init B c17.length c19 m16) fun c20 m21 =>
  (stR c20 g18 3 c17.length).bind fun c22 =>
  (gtR c22 7 x0 0).bind fun g23 =>
  lt1 (c22 ++ [(.inr (.inl (2, [])) : RC)]) fun c24 =>
  bd2 (kX2_init B c22.length c24 m21) fun c25 m26 =>
  (stR c25 g23 4 c22.length).bind fun c27 =>
  (gtR c27 7 x0 0).bind fun g28 =>
  lt1 (c27 ++ [(.inr (.inl (2, [])) : RC)]) fun c29 =>
  bd2 (kX2_init B c27.length c29 m26) fun c30 m31 =>
  (stR c30 g28 5 c27.length).bind fun c32 =>
  (gtR c32 7 x0 0).bind fun g33 =>
  lt1 (c32 ++ [(.inr (.inl (2, [])) : RC)]) fun c34 =>
  bd2 (kX2_init B c32.length c34 m31) fun c35 m36 =>
  (stR c35 g33 6 c32.length).bind fun c37 =>
  (gtR c37 7 x0 0).bind fun g38 =>
  lt1 (c37 ++ [(.inr (.inl (2, [])) : RC)]) fun c39 =>
  bd2 (kX2_init B c37.length c39 m36) fun c40 m41 =>
  (stR c40 g38 7 c37.length).bind fun c42 =>
  (gtR c42 7 x0 0).bind fun g43 =>
  lt1 (c42 ++ [(.inr (.inl (2, [])) : RC)]) fun c44 =>
  bd2 (kX2_init B c42.length c44 m41) fun c45 m46 =>
  (stR c45 g43 8 c42.length).bind fun c47 =>
  (gtR c47 7 x0 0).bind fun g48 =>
  lt1 (c47 ++ [(.inr (.inl (2, [])) : RC)]) fun c49 =>
  bd2 (kX2_init B c47.length c49 m46) fun c50 m51 =>
  (stR c50 g48 9 c47.length).bind fun c52 =>
  (gtR c52 7 x0 0).bind fun g53 =>
  lt1 (c52 ++ [(.inr (.inl (2, [])) : RC)]) fun c54 =>
  bd2 (kX2_init B c52.length c54 m51) fun c55 m56 =>
  (stR c55 g53 10 c52.length).bind fun c57 =>
  (gtR c57 7 x0 0).bind fun g58 =>
  lt1 (c57 ++ [(.inr (.inl (2, [])) : RC)]) fun c59 =>
  bd2 (kX2_init B c57.length c59 m56) fun c60 m61 =>
  (stR c60 g58 11 c57.length).bind fun c62 =>
  (gtR c62 7 x0 0).bind fun g63 =>
  lt1 (c62 ++ [(.inr (.inl (2, [])) : RC)]) fun c64 =>
  bd2 (kX2_init B c62.length c64 m61) fun c65 m66 =>
  (stR c65 g63 12 c62.length).bind fun c67 =>
  (gtR c67 7 x0 0).bind fun g68 =>
  lt1 (c67 ++ [(.inr (.inl (2, [])) : RC)]) fun c69 =>
  bd2 (kX2_init B c67.length c69 m66) fun c70 m71 =>
  (stR c70 g68 13 c67.length).bind fun c72 =>
  (gtR c72 7 x0 0).bind fun g73 =>
  lt1 (c72 ++ [(.inr (.inl (2, [])) : RC)]) fun c74 =>
  bd2 (kX2_init B c72.length c74 m71) fun c75 m76 =>
  (stR c75 g73 14 c72.length).bind fun c77 =>
  (gtR c77 7 x0 0).bind fun g78 =>
  lt1 (c77 ++ [(.inr (.inl (2, [])) : RC)]) fun c79 =>
  bd2 (kX2_init B c77.length c79 m76) fun c80 m81 =>
  (stR c80 g78 15 c77.length).bind fun c82 =>
  some (c82, m81)
def kX3_init (B : Nat) (x0 : Nat) (cs : List RC) (mm : Mem) : Option (List RC × Mem) :=
  lt1 (cs ++ [(.inr (.inl (2, [])) : RC)]) fun c1 =>
  bd2 (kX2_init B cs.length c1 mm) fun c2 m3 =>
  (ptR c2 3 x0 0 cs.length).bind fun c4 =>
  lt1 (c4 ++ [(.inr (.inl (7, [])) : RC)]) fun c5 =>
  bd2 (kX7_init B c4.length c5 m3) fun c6 m7 =>
  (ptR c6 3 x0 1 c4.length).bind fun c8 =>
  some (c8, m7)
def kX10_init (B : Nat) (x0 : Nat) (x1 : Nat) (x2 : Nat) (x3 : Nat) (cs : List RC) (mm : Mem) : Option (List RC × Mem) :=
  (ptR cs 10 x0 0 x1).bind fun c1 =>
  (ptR c1 10 x0 1 x2).bind fun c2 =>
  (ptR c2 10 x0 2 x3).bind fun c3 =>
  lt1 (c3 ++ [(.inl 150 : RC)]) fun c4 =>
  (ptR c4 10 x0 3 c3.length).bind fun c5 =>
  lt1 (c5 ++ [(.inl 150 : RC)]) fun c6 =>
  (ptR c6 10 x0 4 c5.length).bind fun c7 =>
  lt1 (c7 ++ [(.inl 150 : RC)]) fun c8 =>
  (ptR c8 10 x0 5 c7.length).bind fun c9 =>
  lt1 (c9 ++ [(.inl 150 : RC)]) fun c10 =>
  (ptR c10 10 x0 6 c9.length).bind fun c11 =>
  lt1 (c11 ++ [(.inl 150 : RC)]) fun c12 =>
  (ptR c12 10 x0 7 c11.length).bind fun c13 =>
  some (c13, mm)
def kX6_init (B : Nat) (x0 : Nat) (x1 : Nat) (x2 : Nat) (x3 : Nat) (cs : List RC) (mm : Mem) : Option (List RC × Mem) :=
  (ptR cs 6 x0 0 x1).bind fun c1 =>
  (ptR c1 6 x0 1 x2).bind fun c2 =>
  (ptR c2 6 x0 2 x3).bind fun c3 =>
  lt1 (c3 ++ [(.inr (.inl (2, [])) : RC)]) fun c4 =>
  bd2 (kX2_init B c3.length c4 mm) fun c5 m6 =>
  (ptR c5 6 x0 3 c3.length).bind fun c7 =>
  lt1 (nwM c7 48 99) fun c8 =>
  (ptR c8 6 x0 4 c7.length).bind fun c9 =>
  lt1 (c9 ++ [(.inl 1681 : RC)]) fun c10 =>
  (ptR c10 6 x0 5 c9.length).bind fun c11 =>
  some (c11, m6)
def kX9_init (B : Nat) (x0 : Nat) (x1 : Nat) (x2 : Nat) (cs : List RC) (mm : Mem) : Option (List RC × Mem) :=
  (ptR cs 9 x0 0 x1).bind fun c1 =>
  (ptR c1 9 x0 1 x2).bind fun c2 =>
  lt1 (c2 ++ [(.inr (.inl (2, [])) : RC)]) fun c3 =>
  bd2 (kX2_init B c2.length c3 mm) fun c4 m5 =>
  (ptR c4 9 x0 2 c2.length).bind fun c6 =>
  some (c6, m5)
def kX11_init (B : Nat) (x0 : Nat) (cs : List RC) (mm : Mem) : Option (List RC × Mem) :=
  lt1 (cs ++ [(.inr (.inl (8, [])) : RC)]) fun c1 =>
  bd2 (kX8_init B cs.length c1 mm) fun c2 m3 =>
  (ptR c2 11 x0 0 cs.length).bind fun c4 =>
  lt1 (c4 ++ [(.inr (.inl (1, [])) : RC)]) fun c5 =>
  bd2 (kX1_init B c4.length c5 m3) fun c6 m7 =>
  (ptR c6 11 x0 1 c4.length).bind fun c8 =>
  lt1 (c8 ++ [(.inr (.inl (1, [])) : RC)]) fun c9 =>
  bd2 (kX1_init B c8.length c9 m7) fun c10 m11 =>
  (ptR c10 11 x0 2 c8.length).bind fun c12 =>
  lt1 (c12 ++ [(.inr (.inl (4, [])) : RC)]) fun c13 =>
  bd2 (kX4_init B c12.length c13 m11) fun c14 m15 =>
  (ptR c14 11 x0 3 c12.length).bind fun c16 =>
  lt1 (c16 ++ [(.inr (.inl (4, [])) : RC)]) fun c17 =>
  bd2 (kX4_init B c16.length c17 m15) fun c18 m19 =>
  (ptR c18 11 x0 4 c16.length).bind fun c20 =>
  lt1 (c20 ++ [(.inr (.inl (0, [])) : RC)]) fun c21 =>
  bd2 (kX0_init B c20.length c21 m19) fun c22 m23 =>
  (ptR c22 11 x0 5 c20.length).bind fun c24 =>
  lt1 (c24 ++ [(.inr (.inl (0, [])) : RC)]) fun c25 =>
  bd2 (kX0_init B c24.length c25 m23) fun c26 m27 =>
  (ptR c26 11 x0 6 c24.length).bind fun c28 =>
  lt1 (c28 ++ [(.inr (.inl (5, [])) : RC)]) fun c29 =>
  (gtR c29 11 x0 1).bind fun g30 =>
  (gtR c29 11 x0 3).bind fun g31 =>
  bd2 (kX5_init B c28.length g30 g31 c29 m27) fun c32 m33 =>
  (ptR c32 11 x0 7 c28.length).bind fun c34 =>
  lt1 (c34 ++ [(.inr (.inl (10, [])) : RC)]) fun c35 =>
  (gtR c35 11 x0 0).bind fun g36 =>
  (gtR c35 11 x0 1).bind fun g37 =>
  (gtR c35 11 x0 7).bind fun g38 =>
  bd2 (kX10_init B c34.length g36 g37 g38 c35 m33) fun c39 m40 =>
  (ptR c39 11 x0 8 c34.length).bind fun c41 =>
  lt1 (c41 ++ [(.inr (.inl (2, [])) : RC)]) fun c42 =>
  bd2 (kX2_init B c41.length c42 m40) fun c43 m44 =>
  (ptR c43 11 x0 9 c41.length).bind fun c45 =>
  lt1 (c45 ++ [(.inr (.inl (7, [])) : RC)]) fun c46 =>
  bd2 (kX7_init B c45.length c46 m44) fun c47 m48 =>
  (ptR c47 11 x0 10 c45.length).bind fun c49 =>
  lt1 (c49 ++ [(.inr (.inr (1, 3, [])) : RC)]) fun c50 =>
  (ptR c50 11 x0 11 c49.length).bind fun c51 =>
  (gtR c51 11 x0 11).bind fun g52 =>
  lt1 (c51 ++ [(.inr (.inl (3, [])) : RC)]) fun c53 =>
  bd2 (kX3_init B c51.length c53 m48) fun c54 m55 =>
  (stR c54 g52 0 c51.length).bind fun c56 =>
  (gtR c56 11 x0 11).bind fun g57 =>
  lt1 (c56 ++ [(.inr (.inl (3, [])) : RC)]) fun c58 =>
  bd2 (kX3_init B c56.length c58 m55) fun c59 m60 =>
  (stR c59 g57 1 c56.length).bind fun c61 =>
  (gtR c61 11 x0 11).bind fun g62 =>
  lt1 (c61 ++ [(.inr (.inl (3, [])) : RC)]) fun c63 =>
  bd2 (kX3_init B c61.length c63 m60) fun c64 m65 =>
  (stR c64 g62 2 c61.length).bind fun c66 =>
  lt1 (c66 ++ [(.inr (.inl (6, [])) : RC)]) fun c67 =>
  (gtR c67 11 x0 1).bind fun g68 =>
  (gtR c67 11 x0 5).bind fun g69 =>
  (gtR c67 11 x0 7).bind fun g70 =>
  bd2 (kX6_init B c66.length g68 g69 g70 c67 m65) fun c71 m72 =>
  (ptR c71 11 x0 14 c66.length).bind fun c73 =>
  lt1 (c73 ++ [(.inr (.inl (9, [])) : RC)]) fun c74 =>
  (gtR c74 11 x0 1).bind fun g75 =>
  (gtR c74 11 x0 7).bind fun g76 =>
  bd2 (kX9_init B c73.length g75 g76 c74 m72) fun c77 m78 =>
  (ptR c77 11 x0 15 c73.length).bind fun c79 =>
  some (c79, m78)
def kX12_init (B : Nat) (x0 : Nat) (cs : List RC) (mm : Mem) : Option (List RC × Mem) :=
  lt1 (cs ++ [(.inl 2 : RC)]) fun c1 =>
  (ptR c1 12 x0 1 cs.length).bind fun c2 =>
  (wI (shL B c2) mm 12 (B + x0) 8 (-1)).bind fun m3 =>
  lt1 (c2 ++ [(.inl 600 : RC)]) fun c4 =>
  (ptR c4 12 x0 9 c2.length).bind fun c5 =>
  lt1 (c5 ++ [(.inl 42 : RC)]) fun c6 =>
  (ptR c6 12 x0 10 c5.length).bind fun c7 =>
  lt1 (c7 ++ [(.inl 16 : RC)]) fun c8 =>
  (ptR c8 12 x0 11 c7.length).bind fun c9 =>
  lt1 (c9 ++ [(.inl 42 : RC)]) fun c10 =>
  (ptR c10 12 x0 12 c9.length).bind fun c11 =>
  lt1 (c11 ++ [(.inl 16 : RC)]) fun c12 =>
  (ptR c12 12 x0 13 c11.length).bind fun c13 =>
  lt1 (c13 ++ [(.inl 150 : RC)]) fun c14 =>
  (ptR c14 12 x0 20 c13.length).bind fun c15 =>
  lt1 (c15 ++ [(.inl 150 : RC)]) fun c16 =>
  (ptR c16 12 x0 21 c15.length).bind fun c17 =>
  lt1 (c17 ++ [(.inl 150 : RC)]) fun c18 =>
  (ptR c18 12 x0 22 c17.length).bind fun c19 =>
  lt1 (c19 ++ [(.inl 150 : RC)]) fun c20 =>
  (ptR c20 12 x0 23 c19.length).bind fun c21 =>
  lt1 (c21 ++ [(.inl 150 : RC)]) fun c22 =>
  (ptR c22 12 x0 24 c21.length).bind fun c23 =>
  lt1 (c23 ++ [(.inl 8 : RC)]) fun c24 =>
  (ptR c24 12 x0 27 c23.length).bind fun c25 =>
  lt1 (c25 ++ [(.inl 200 : RC)]) fun c26 =>
  (ptR c26 12 x0 28 c25.length).bind fun c27 =>
  lt1 (c27 ++ [(.inl 200 : RC)]) fun c28 =>
  (ptR c28 12 x0 29 c27.length).bind fun c29 =>
  lt1 (c29 ++ [(.inl 175 : RC)]) fun c30 =>
  (ptR c30 12 x0 36 c29.length).bind fun c31 =>
  lt1 (c31 ++ [(.inl 175 : RC)]) fun c32 =>
  (ptR c32 12 x0 37 c31.length).bind fun c33 =>
  lt1 (c33 ++ [(.inl 2800 : RC)]) fun c34 =>
  (ptR c34 12 x0 38 c33.length).bind fun c35 =>
  lt1 (c35 ++ [(.inl 7 : RC)]) fun c36 =>
  (ptR c36 12 x0 39 c35.length).bind fun c37 =>
  lt1 (c37 ++ [(.inl 16 : RC)]) fun c38 =>
  (ptR c38 12 x0 40 c37.length).bind fun c39 =>
  lt1 (c39 ++ [(.inl 16 : RC)]) fun c40 =>
  (ptR c40 12 x0 41 c39.length).bind fun c41 =>
  lt1 (c41 ++ [(.inl 48 : RC)]) fun c42 =>
  (ptR c42 12 x0 43 c41.length).bind fun c43 =>
  lt1 (c43 ++ [(.inl 48 : RC)]) fun c44 =>
  (ptR c44 12 x0 44 c43.length).bind fun c45 =>
  lt1 (c45 ++ [(.inl 4752 : RC)]) fun c46 =>
  (ptR c46 12 x0 46 c45.length).bind fun c47 =>
  lt1 (c47 ++ [(.inl 8928 : RC)]) fun c48 =>
  (ptR c48 12 x0 48 c47.length).bind fun c49 =>
  (isO (shL B c49) 12 (B + x0)).bind fun _ =>
  (fX12_clears (shL B c49) (B + x0) m3).bind fun m50 =>
  (isO (shL B c49) 12 (B + x0)).bind fun _ =>
  (fX12_sets (shL B c49) (B + x0) m50).bind fun m51 =>
  some (c49, m51)
theorem kX8_init_len {B : Nat} {x0 : Nat} {cs cs' : List RC} {mm mm' : Mem} (hf : kX8_init B x0 cs mm = some (cs', mm')) : cs'.length = cs.length + 1 := by
  unfold kX8_init at hf
  obtain ⟨c1, e1⟩ : ∃ z, z = cs ++ [(.inl 600 : RC)] := ⟨_, rfl⟩
  have hf := lt1_n e1 hf
  have nc1 : c1.length = cs.length + 1 := by rw [e1]; simp
  obtain ⟨c2, h1, hf⟩ := bs hf
  have nc2 := ptR_len h1
  obtain ⟨m3, h1, hf⟩ := bs hf
  cases hf
  omega
set_option maxHeartbeats 4000000 in
set_option maxRecDepth 100000 in
theorem kX8_init_ok {l : Launch} {E : Ev} {x0 : Nat} {cs cs' : List RC} {mm mm' : Mem} (hf : kX8_init (eB E) x0 cs mm = some (cs', mm')) : CtN l yX8_init cX8_init 1 1 40 1 600 E [.ref (eB E + x0)] cs mm cs' mm' := by
  refine Met.ofW (cc := cX8_init) (maxL := 1) (ret := none) (by decide) rfl ?_
  intro p e s m args below meth c s₁ B hml hv
  obtain ⟨rfl, X, hS, hr, hlocks, hin, hz, hsz⟩ := am_inN B hv rfl
  refine am_entry (Nat.le_of_ble_eq_true rfl) (fun ls hl => ?_)
  have hl : lv_has ls 1 [(0, .ref (eB E + x0))] := hl
  have hx := X.1
  have hb := X.2.1
  unfold kX8_init at hf
  refine lv_aload_n hx hb dX8_init_0 rfl (lv_at hl 0 rfl) ?_
  refine am_obj X (hml.trans hl.1.symm) (inBi 134 (by decide +kernel)) (inBi 127 (by decide +kernel)) (inB (List.mem_of_getElem? (i := 128) rfl) rfl) dX8_init_1 (Nat.le_of_ble_eq_true rfl) (Nat.le_of_ble_eq_true rfl) ?_
  refine lv_aload_n hx hb dX8_init_4 rfl (lv_at hl 0 rfl) ?_
  refine lv_sipush (v := 600) hx hb dX8_init_5 (by decide) ?_
  refine am_nI (N' := 600) X hS hz (by omega) (inBi 157 (by decide +kernel)) (by decide) (by decide) (Nat.le_of_ble_eq_true rfl) (Nat.le_of_ble_eq_true rfl) (Nat.le_of_ble_eq_true rfl) dX8_init_8 (fun H hS => ?_)
  obtain ⟨c1, e1⟩ : ∃ z, z = cs ++ [(.inl 600 : RC)] := ⟨_, rfl⟩
  have hf := lt1_n e1 hf
  have nc1 : c1.length = cs.length + 1 := by rw [e1]; simp
  rw [← e1] at hS
  have hz := hz.le (cs' := c1) (by omega)
  have X := X.to c1
  obtain ⟨c2, h1, hf⟩ := bs hf
  have nc2 := ptR_len h1
  refine am_ptR X hS fg_X8_9 rfl hin h1 dX8_init_10 (fun H locs hS => ?_)
  have hz := hz.le (cs' := c2) (by omega)
  have X := X.to c2
  refine lv_aload_n hx hb dX8_init_13 rfl (lv_at hl 0 rfl) ?_
  refine lv_iconst (v := -1) hx hb dX8_init_14 (by decide) ?_
  obtain ⟨m3, h1, hf⟩ := bs hf
  have hz := hz.put h1
  refine am_pi X hS fp_X8_15 rfl h1 dX8_init_15 (fun H locs hS => ?_)
  cases hf
  exact am_rvN X hS hz hr dX8_init_18 hlocks
theorem kX1_init_len {B : Nat} {x0 : Nat} {cs cs' : List RC} {mm mm' : Mem} (hf : kX1_init B x0 cs mm = some (cs', mm')) : cs'.length = cs.length + 3 := by
  unfold kX1_init at hf
  obtain ⟨c1, e1⟩ : ∃ z, z = cs ++ [(.inl 42 : RC)] := ⟨_, rfl⟩
  have hf := lt1_n e1 hf
  have nc1 : c1.length = cs.length + 1 := by rw [e1]; simp
  obtain ⟨c2, h1, hf⟩ := bs hf
  have nc2 := ptR_len h1
  obtain ⟨c3, e1⟩ : ∃ z, z = c2 ++ [(.inl 8 : RC)] := ⟨_, rfl⟩
  have hf := lt1_n e1 hf
  have nc3 : c3.length = c2.length + 1 := by rw [e1]; simp
  obtain ⟨c4, h1, hf⟩ := bs hf
  have nc4 := ptR_len h1
  obtain ⟨c5, e1⟩ : ∃ z, z = c4 ++ [(.inl 8 : RC)] := ⟨_, rfl⟩
  have hf := lt1_n e1 hf
  have nc5 : c5.length = c4.length + 1 := by rw [e1]; simp
  obtain ⟨c6, h1, hf⟩ := bs hf
  have nc6 := ptR_len h1
  obtain ⟨m7, h1, hf⟩ := bs hf
  cases hf
  omega
set_option maxHeartbeats 4000000 in
set_option maxRecDepth 100000 in
theorem kX1_init_ok {l : Launch} {E : Ev} {x0 : Nat} {cs cs' : List RC} {mm mm' : Mem} (hf : kX1_init (eB E) x0 cs mm = some (cs', mm')) : CtN l yX1_init cX1_init 1 1 40 3 58 E [.ref (eB E + x0)] cs mm cs' mm' := by
  refine Met.ofW (cc := cX1_init) (maxL := 1) (ret := none) (by decide) rfl ?_
  intro p e s m args below meth c s₁ B hml hv
  obtain ⟨rfl, X, hS, hr, hlocks, hin, hz, hsz⟩ := am_inN B hv rfl
  refine am_entry (Nat.le_of_ble_eq_true rfl) (fun ls hl => ?_)
  have hl : lv_has ls 1 [(0, .ref (eB E + x0))] := hl
  have hx := X.1
  have hb := X.2.1
  unfold kX1_init at hf
  refine lv_aload_n hx hb dX1_init_0 rfl (lv_at hl 0 rfl) ?_
  refine am_obj X (hml.trans hl.1.symm) (inBi 163 (by decide +kernel)) (inBi 127 (by decide +kernel)) (inB (List.mem_of_getElem? (i := 128) rfl) rfl) dX1_init_1 (Nat.le_of_ble_eq_true rfl) (Nat.le_of_ble_eq_true rfl) ?_
  refine lv_aload_n hx hb dX1_init_4 rfl (lv_at hl 0 rfl) ?_
  refine lv_bipush (v := 42) hx hb dX1_init_5 (by decide) ?_
  refine am_nI (N' := 42) X hS hz (by omega) (inBi 157 (by decide +kernel)) (by decide) (by decide) (Nat.le_of_ble_eq_true rfl) (Nat.le_of_ble_eq_true rfl) (Nat.le_of_ble_eq_true rfl) dX1_init_7 (fun H hS => ?_)
  obtain ⟨c1, e1⟩ : ∃ z, z = cs ++ [(.inl 42 : RC)] := ⟨_, rfl⟩
  have hf := lt1_n e1 hf
  have nc1 : c1.length = cs.length + 1 := by rw [e1]; simp
  rw [← e1] at hS
  have hz := hz.le (cs' := c1) (by omega)
  have X := X.to c1
  obtain ⟨c2, h1, hf⟩ := bs hf
  have nc2 := ptR_len h1
  refine am_ptR X hS fg_X1_9 rfl hin h1 dX1_init_9 (fun H locs hS => ?_)
  have hz := hz.le (cs' := c2) (by omega)
  have X := X.to c2
  refine lv_aload_n hx hb dX1_init_12 rfl (lv_at hl 0 rfl) ?_
  refine lv_bipush (v := 8) hx hb dX1_init_13 (by decide) ?_
  refine am_nI (N' := 8) X hS hz (by omega) (inBi 157 (by decide +kernel)) (by decide) (by decide) (Nat.le_of_ble_eq_true rfl) (Nat.le_of_ble_eq_true rfl) (Nat.le_of_ble_eq_true rfl) dX1_init_15 (fun H hS => ?_)
  obtain ⟨c3, e1⟩ : ∃ z, z = c2 ++ [(.inl 8 : RC)] := ⟨_, rfl⟩
  have hf := lt1_n e1 hf
  have nc3 : c3.length = c2.length + 1 := by rw [e1]; simp
  rw [← e1] at hS
  have hz := hz.le (cs' := c3) (by omega)
  have X := X.to c3
  obtain ⟨c4, h1, hf⟩ := bs hf
  have nc4 := ptR_len h1
  refine am_ptR X hS fg_X1_15 rfl hin h1 dX1_init_17 (fun H locs hS => ?_)
  have hz := hz.le (cs' := c4) (by omega)
  have X := X.to c4
  refine lv_aload_n hx hb dX1_init_20 rfl (lv_at hl 0 rfl) ?_
  refine lv_bipush (v := 8) hx hb dX1_init_21 (by decide) ?_
  refine am_nI (N' := 8) X hS hz (by omega) (inBi 157 (by decide +kernel)) (by decide) (by decide) (Nat.le_of_ble_eq_true rfl) (Nat.le_of_ble_eq_true rfl) (Nat.le_of_ble_eq_true rfl) dX1_init_23 (fun H hS => ?_)
  obtain ⟨c5, e1⟩ : ∃ z, z = c4 ++ [(.inl 8 : RC)] := ⟨_, rfl⟩
  have hf := lt1_n e1 hf
  have nc5 : c5.length = c4.length + 1 := by rw [e1]; simp
  rw [← e1] at hS
  have hz := hz.le (cs' := c5) (by omega)
  have X := X.to c5
  obtain ⟨c6, h1, hf⟩ := bs hf
  have nc6 := ptR_len h1
  refine am_ptR X hS fg_X1_18 rfl hin h1 dX1_init_25 (fun H locs hS => ?_)
  have hz := hz.le (cs' := c6) (by omega)
  have X := X.to c6
  refine lv_aload_n hx hb dX1_init_28 rfl (lv_at hl 0 rfl) ?_
  refine lv_bipush (v := 60) hx hb dX1_init_29 (by decide) ?_
  obtain ⟨m7, h1, hf⟩ := bs hf
  have hz := hz.put h1
  refine am_pi X hS fp_X1_21 rfl h1 dX1_init_31 (fun H locs hS => ?_)
  cases hf
  exact am_rvN X hS hz hr dX1_init_34 hlocks
theorem kX4_init_len {B : Nat} {x0 : Nat} {cs cs' : List RC} {mm mm' : Mem} (hf : kX4_init B x0 cs mm = some (cs', mm')) : cs'.length = cs.length + 2 := by
  unfold kX4_init at hf
  obtain ⟨c1, e1⟩ : ∃ z, z = cs ++ [(.inl 151 : RC)] := ⟨_, rfl⟩
  have hf := lt1_n e1 hf
  have nc1 : c1.length = cs.length + 1 := by rw [e1]; simp
  obtain ⟨c2, h1, hf⟩ := bs hf
  have nc2 := ptR_len h1
  obtain ⟨c3, e1⟩ : ∃ z, z = c2 ++ [(.inl 151 : RC)] := ⟨_, rfl⟩
  have hf := lt1_n e1 hf
  have nc3 : c3.length = c2.length + 1 := by rw [e1]; simp
  obtain ⟨c4, h1, hf⟩ := bs hf
  have nc4 := ptR_len h1
  obtain ⟨u0, h0, hf⟩ := bs hf
  obtain ⟨m5, h1, hf⟩ := bs hf
  cases hf
  omega
set_option maxHeartbeats 4000000 in
set_option maxRecDepth 100000 in
theorem kX4_init_ok {l : Launch} {E : Ev} {x0 : Nat} {cs cs' : List RC} {mm mm' : Mem} (hZ : Zr E cs' mm') (hf : kX4_init (eB E) x0 cs mm = some (cs', mm')) : CtN l yX4_init cX4_init 1 1 40 2 302 E [.ref (eB E + x0)] cs mm cs' mm' := by
  refine Met.ofW (cc := cX4_init) (maxL := 1) (ret := none) (by decide) rfl ?_
  intro p e s m args below meth c s₁ B hml hv
  obtain ⟨rfl, X, hS, hr, hlocks, hin, hz, hsz⟩ := am_inN B hv rfl
  refine am_entry (Nat.le_of_ble_eq_true rfl) (fun ls hl => ?_)
  have hl : lv_has ls 1 [(0, .ref (eB E + x0))] := hl
  have hx := X.1
  have hb := X.2.1
  unfold kX4_init at hf
  refine lv_aload_n hx hb dX4_init_0 rfl (lv_at hl 0 rfl) ?_
  refine am_obj X (hml.trans hl.1.symm) (inBi 203 (by decide +kernel)) (inBi 127 (by decide +kernel)) (inB (List.mem_of_getElem? (i := 128) rfl) rfl) dX4_init_1 (Nat.le_of_ble_eq_true rfl) (Nat.le_of_ble_eq_true rfl) ?_
  refine lv_aload_n hx hb dX4_init_4 rfl (lv_at hl 0 rfl) ?_
  refine lv_sipush (v := 151) hx hb dX4_init_5 (by decide) ?_
  refine am_nI (N' := 151) X hS hz (by omega) (inBi 157 (by decide +kernel)) (by decide) (by decide) (Nat.le_of_ble_eq_true rfl) (Nat.le_of_ble_eq_true rfl) (Nat.le_of_ble_eq_true rfl) dX4_init_8 (fun H hS => ?_)
  obtain ⟨c1, e1⟩ : ∃ z, z = cs ++ [(.inl 151 : RC)] := ⟨_, rfl⟩
  have hf := lt1_n e1 hf
  have nc1 : c1.length = cs.length + 1 := by rw [e1]; simp
  rw [← e1] at hS
  have hz := hz.le (cs' := c1) (by omega)
  have X := X.to c1
  obtain ⟨c2, h1, hf⟩ := bs hf
  have nc2 := ptR_len h1
  refine am_ptR X hS fg_X4_9 rfl hin h1 dX4_init_10 (fun H locs hS => ?_)
  have hz := hz.le (cs' := c2) (by omega)
  have X := X.to c2
  refine lv_aload_n hx hb dX4_init_13 rfl (lv_at hl 0 rfl) ?_
  refine lv_sipush (v := 151) hx hb dX4_init_14 (by decide) ?_
  refine am_nI (N' := 151) X hS hz (by omega) (inBi 157 (by decide +kernel)) (by decide) (by decide) (Nat.le_of_ble_eq_true rfl) (Nat.le_of_ble_eq_true rfl) (Nat.le_of_ble_eq_true rfl) dX4_init_17 (fun H hS => ?_)
  obtain ⟨c3, e1⟩ : ∃ z, z = c2 ++ [(.inl 151 : RC)] := ⟨_, rfl⟩
  have hf := lt1_n e1 hf
  have nc3 : c3.length = c2.length + 1 := by rw [e1]; simp
  rw [← e1] at hS
  have hz := hz.le (cs' := c3) (by omega)
  have X := X.to c3
  obtain ⟨c4, h1, hf⟩ := bs hf
  have nc4 := ptR_len h1
  refine am_ptR X hS fg_X4_15 rfl hin h1 dX4_init_19 (fun H locs hS => ?_)
  have hz := hz.le (cs' := c4) (by omega)
  have X := X.to c4
  refine lv_aload_n hx hb dX4_init_22 rfl (lv_at hl 0 rfl) ?_
  obtain ⟨u0, h0, hf⟩ := bs hf
  obtain ⟨_, hrc⟩ := isO_n h0
  obtain ⟨m5, h1, hf⟩ := bs hf
  refine am_endv hS (am_runV (E := mkR E c4) (As := []) X (hml.trans hl.1.symm) hS (cX4_becomePlain_ok (l := l) (E := mkR E c4) h1) mv_X4_18 hrc rfl ⟨Nat.le_of_ble_eq_true rfl, Nat.le_of_ble_eq_true rfl⟩ ⟨Nat.le_of_ble_eq_true rfl, Nat.le_of_ble_eq_true rfl⟩ rfl rfl (Nat.le_of_ble_eq_true rfl) dX4_init_23) (fun H locs hS => ?_)
  cases hf
  exact am_rvN X hS hZ hr dX4_init_26 hlocks
theorem kX0_init_len {B : Nat} {x0 : Nat} {cs cs' : List RC} {mm mm' : Mem} (hf : kX0_init B x0 cs mm = some (cs', mm')) : cs'.length = cs.length + 2 := by
  unfold kX0_init at hf
  obtain ⟨c1, e1⟩ : ∃ z, z = cs ++ [(.inl 8 : RC)] := ⟨_, rfl⟩
  have hf := lt1_n e1 hf
  have nc1 : c1.length = cs.length + 1 := by rw [e1]; simp
  obtain ⟨c2, h1, hf⟩ := bs hf
  have nc2 := ptR_len h1
  obtain ⟨c3, e1⟩ : ∃ z, z = c2 ++ [(.inl 8 : RC)] := ⟨_, rfl⟩
  have hf := lt1_n e1 hf
  have nc3 : c3.length = c2.length + 1 := by rw [e1]; simp
  obtain ⟨c4, h1, hf⟩ := bs hf
  have nc4 := ptR_len h1
  cases hf
  omega
set_option maxHeartbeats 4000000 in
set_option maxRecDepth 100000 in
theorem kX0_init_ok {l : Launch} {E : Ev} {x0 : Nat} {cs cs' : List RC} {mm mm' : Mem} (hf : kX0_init (eB E) x0 cs mm = some (cs', mm')) : CtN l yX0_init cX0_init 1 1 40 2 16 E [.ref (eB E + x0)] cs mm cs' mm' := by
  refine Met.ofW (cc := cX0_init) (maxL := 1) (ret := none) (by decide) rfl ?_
  intro p e s m args below meth c s₁ B hml hv
  obtain ⟨rfl, X, hS, hr, hlocks, hin, hz, hsz⟩ := am_inN B hv rfl
  refine am_entry (Nat.le_of_ble_eq_true rfl) (fun ls hl => ?_)
  have hl : lv_has ls 1 [(0, .ref (eB E + x0))] := hl
  have hx := X.1
  have hb := X.2.1
  unfold kX0_init at hf
  refine lv_aload_n hx hb dX0_init_0 rfl (lv_at hl 0 rfl) ?_
  refine am_obj X (hml.trans hl.1.symm) (inBi 223 (by decide +kernel)) (inBi 127 (by decide +kernel)) (inB (List.mem_of_getElem? (i := 128) rfl) rfl) dX0_init_1 (Nat.le_of_ble_eq_true rfl) (Nat.le_of_ble_eq_true rfl) ?_
  refine lv_aload_n hx hb dX0_init_4 rfl (lv_at hl 0 rfl) ?_
  refine lv_bipush (v := 8) hx hb dX0_init_5 (by decide) ?_
  refine am_nI (N' := 8) X hS hz (by omega) (inBi 157 (by decide +kernel)) (by decide) (by decide) (Nat.le_of_ble_eq_true rfl) (Nat.le_of_ble_eq_true rfl) (Nat.le_of_ble_eq_true rfl) dX0_init_7 (fun H hS => ?_)
  obtain ⟨c1, e1⟩ : ∃ z, z = cs ++ [(.inl 8 : RC)] := ⟨_, rfl⟩
  have hf := lt1_n e1 hf
  have nc1 : c1.length = cs.length + 1 := by rw [e1]; simp
  rw [← e1] at hS
  have hz := hz.le (cs' := c1) (by omega)
  have X := X.to c1
  obtain ⟨c2, h1, hf⟩ := bs hf
  have nc2 := ptR_len h1
  refine am_ptR X hS fg_X0_9 rfl hin h1 dX0_init_9 (fun H locs hS => ?_)
  have hz := hz.le (cs' := c2) (by omega)
  have X := X.to c2
  refine lv_aload_n hx hb dX0_init_12 rfl (lv_at hl 0 rfl) ?_
  refine lv_bipush (v := 8) hx hb dX0_init_13 (by decide) ?_
  refine am_nI (N' := 8) X hS hz (by omega) (inBi 157 (by decide +kernel)) (by decide) (by decide) (Nat.le_of_ble_eq_true rfl) (Nat.le_of_ble_eq_true rfl) (Nat.le_of_ble_eq_true rfl) dX0_init_15 (fun H hS => ?_)
  obtain ⟨c3, e1⟩ : ∃ z, z = c2 ++ [(.inl 8 : RC)] := ⟨_, rfl⟩
  have hf := lt1_n e1 hf
  have nc3 : c3.length = c2.length + 1 := by rw [e1]; simp
  rw [← e1] at hS
  have hz := hz.le (cs' := c3) (by omega)
  have X := X.to c3
  obtain ⟨c4, h1, hf⟩ := bs hf
  have nc4 := ptR_len h1
  refine am_ptR X hS fg_X0_15 rfl hin h1 dX0_init_17 (fun H locs hS => ?_)
  have hz := hz.le (cs' := c4) (by omega)
  have X := X.to c4
  cases hf
  exact am_rvN X hS hz hr dX0_init_20 hlocks
theorem kX5_init_len {B : Nat} {x0 : Nat} {x1 : Nat} {x2 : Nat} {cs cs' : List RC} {mm mm' : Mem} (hf : kX5_init B x0 x1 x2 cs mm = some (cs', mm')) : cs'.length = cs.length + 3 := by
  unfold kX5_init at hf
  obtain ⟨c1, h1, hf⟩ := bs hf
  have nc1 := ptR_len h1
  obtain ⟨c2, h1, hf⟩ := bs hf
  have nc2 := ptR_len h1
  obtain ⟨c3, e1⟩ : ∃ z, z = c2 ++ [(.inl 8 : RC)] := ⟨_, rfl⟩
  have hf := lt1_n e1 hf
  have nc3 : c3.length = c2.length + 1 := by rw [e1]; simp
  obtain ⟨c4, h1, hf⟩ := bs hf
  have nc4 := ptR_len h1
  obtain ⟨c5, e1⟩ : ∃ z, z = c4 ++ [(.inl 7 : RC)] := ⟨_, rfl⟩
  have hf := lt1_n e1 hf
  have nc5 : c5.length = c4.length + 1 := by rw [e1]; simp
  obtain ⟨c6, h1, hf⟩ := bs hf
  have nc6 := ptR_len h1
  obtain ⟨c7, e1⟩ : ∃ z, z = c6 ++ [(.inl 8 : RC)] := ⟨_, rfl⟩
  have hf := lt1_n e1 hf
  have nc7 : c7.length = c6.length + 1 := by rw [e1]; simp
  obtain ⟨c8, h1, hf⟩ := bs hf
  have nc8 := ptR_len h1
  cases hf
  omega
set_option maxHeartbeats 4000000 in
set_option maxRecDepth 100000 in
theorem kX5_init_ok {l : Launch} {E : Ev} {x0 : Nat} {x1 : Nat} {x2 : Nat} {cs cs' : List RC} {mm mm' : Mem} (hf : kX5_init (eB E) x0 x1 x2 cs mm = some (cs', mm')) : CtN l yX5_init cX5_init 3 1 40 3 23 E [.ref (eB E + x0), .ref (eB E + x1), .ref (eB E + x2)] cs mm cs' mm' := by
  refine Met.ofW (cc := cX5_init) (maxL := 3) (ret := none) (by decide) rfl ?_
  intro p e s m args below meth c s₁ B hml hv
  obtain ⟨rfl, X, hS, hr, hlocks, hin, hz, hsz⟩ := am_inN B hv rfl
  refine am_entry (Nat.le_of_ble_eq_true rfl) (fun ls hl => ?_)
  have hl : lv_has ls 3 [(0, .ref (eB E + x0)), (1, .ref (eB E + x1)), (2, .ref (eB E + x2))] := hl
  have hx := X.1
  have hb := X.2.1
  unfold kX5_init at hf
  refine lv_aload_n hx hb dX5_init_0 rfl (lv_at hl 0 rfl) ?_
  refine am_obj X (hml.trans hl.1.symm) (inBi 240 (by decide +kernel)) (inBi 127 (by decide +kernel)) (inB (List.mem_of_getElem? (i := 128) rfl) rfl) dX5_init_1 (Nat.le_of_ble_eq_true rfl) (Nat.le_of_ble_eq_true rfl) ?_
  refine lv_aload_n hx hb dX5_init_4 rfl (lv_at hl 0 rfl) ?_
  refine lv_aload_n hx hb dX5_init_5 rfl (lv_at hl 1 rfl) ?_
  obtain ⟨c1, h1, hf⟩ := bs hf
  have nc1 := ptR_len h1
  refine am_ptR X hS fg_X5_9 rfl hin h1 dX5_init_6 (fun H locs hS => ?_)
  have hz := hz.le (cs' := c1) (by omega)
  have X := X.to c1
  refine lv_aload_n hx hb dX5_init_9 rfl (lv_at hl 0 rfl) ?_
  refine lv_aload_n hx hb dX5_init_10 rfl (lv_at hl 2 rfl) ?_
  obtain ⟨c2, h1, hf⟩ := bs hf
  have nc2 := ptR_len h1
  refine am_ptR X hS fg_X5_15 rfl hin h1 dX5_init_11 (fun H locs hS => ?_)
  have hz := hz.le (cs' := c2) (by omega)
  have X := X.to c2
  refine lv_aload_n hx hb dX5_init_14 rfl (lv_at hl 0 rfl) ?_
  refine lv_bipush (v := 8) hx hb dX5_init_15 (by decide) ?_
  refine am_nI (N' := 8) X hS hz (by omega) (inBi 157 (by decide +kernel)) (by decide) (by decide) (Nat.le_of_ble_eq_true rfl) (Nat.le_of_ble_eq_true rfl) (Nat.le_of_ble_eq_true rfl) dX5_init_17 (fun H hS => ?_)
  obtain ⟨c3, e1⟩ : ∃ z, z = c2 ++ [(.inl 8 : RC)] := ⟨_, rfl⟩
  have hf := lt1_n e1 hf
  have nc3 : c3.length = c2.length + 1 := by rw [e1]; simp
  rw [← e1] at hS
  have hz := hz.le (cs' := c3) (by omega)
  have X := X.to c3
  obtain ⟨c4, h1, hf⟩ := bs hf
  have nc4 := ptR_len h1
  refine am_ptR X hS fg_X5_21 rfl hin h1 dX5_init_19 (fun H locs hS => ?_)
  have hz := hz.le (cs' := c4) (by omega)
  have X := X.to c4
  refine lv_aload_n hx hb dX5_init_22 rfl (lv_at hl 0 rfl) ?_
  refine lv_bipush (v := 7) hx hb dX5_init_23 (by decide) ?_
  refine am_nI (N' := 7) X hS hz (by omega) (inBi 157 (by decide +kernel)) (by decide) (by decide) (Nat.le_of_ble_eq_true rfl) (Nat.le_of_ble_eq_true rfl) (Nat.le_of_ble_eq_true rfl) dX5_init_25 (fun H hS => ?_)
  obtain ⟨c5, e1⟩ : ∃ z, z = c4 ++ [(.inl 7 : RC)] := ⟨_, rfl⟩
  have hf := lt1_n e1 hf
  have nc5 : c5.length = c4.length + 1 := by rw [e1]; simp
  rw [← e1] at hS
  have hz := hz.le (cs' := c5) (by omega)
  have X := X.to c5
  obtain ⟨c6, h1, hf⟩ := bs hf
  have nc6 := ptR_len h1
  refine am_ptR X hS fg_X5_25 rfl hin h1 dX5_init_27 (fun H locs hS => ?_)
  have hz := hz.le (cs' := c6) (by omega)
  have X := X.to c6
  refine lv_aload_n hx hb dX5_init_30 rfl (lv_at hl 0 rfl) ?_
  refine lv_bipush (v := 8) hx hb dX5_init_31 (by decide) ?_
  refine am_nI (N' := 8) X hS hz (by omega) (inBi 157 (by decide +kernel)) (by decide) (by decide) (Nat.le_of_ble_eq_true rfl) (Nat.le_of_ble_eq_true rfl) (Nat.le_of_ble_eq_true rfl) dX5_init_33 (fun H hS => ?_)
  obtain ⟨c7, e1⟩ : ∃ z, z = c6 ++ [(.inl 8 : RC)] := ⟨_, rfl⟩
  have hf := lt1_n e1 hf
  have nc7 : c7.length = c6.length + 1 := by rw [e1]; simp
  rw [← e1] at hS
  have hz := hz.le (cs' := c7) (by omega)
  have X := X.to c7
  obtain ⟨c8, h1, hf⟩ := bs hf
  have nc8 := ptR_len h1
  refine am_ptR X hS fg_X5_28 rfl hin h1 dX5_init_35 (fun H locs hS => ?_)
  have hz := hz.le (cs' := c8) (by omega)
  have X := X.to c8
  cases hf
  exact am_rvN X hS hz hr dX5_init_38 hlocks
theorem kX2_init_len {B : Nat} {x0 : Nat} {cs cs' : List RC} {mm mm' : Mem} (hf : kX2_init B x0 cs mm = some (cs', mm')) : cs'.length = cs.length + 5 := by
  unfold kX2_init at hf
  obtain ⟨c1, e1⟩ : ∃ z, z = cs ++ [(.inl 42 : RC)] := ⟨_, rfl⟩
  have hf := lt1_n e1 hf
  have nc1 : c1.length = cs.length + 1 := by rw [e1]; simp
  obtain ⟨c2, h1, hf⟩ := bs hf
  have nc2 := ptR_len h1
  obtain ⟨c3, e1⟩ : ∃ z, z = c2 ++ [(.inl 42 : RC)] := ⟨_, rfl⟩
  have hf := lt1_n e1 hf
  have nc3 : c3.length = c2.length + 1 := by rw [e1]; simp
  obtain ⟨c4, h1, hf⟩ := bs hf
  have nc4 := ptR_len h1
  obtain ⟨c5, e1⟩ : ∃ z, z = c4 ++ [(.inl 42 : RC)] := ⟨_, rfl⟩
  have hf := lt1_n e1 hf
  have nc5 : c5.length = c4.length + 1 := by rw [e1]; simp
  obtain ⟨c6, h1, hf⟩ := bs hf
  have nc6 := ptR_len h1
  obtain ⟨c7, e1⟩ : ∃ z, z = c6 ++ [(.inl 42 : RC)] := ⟨_, rfl⟩
  have hf := lt1_n e1 hf
  have nc7 : c7.length = c6.length + 1 := by rw [e1]; simp
  obtain ⟨c8, h1, hf⟩ := bs hf
  have nc8 := ptR_len h1
  obtain ⟨c9, e1⟩ : ∃ z, z = c8 ++ [(.inl 6 : RC)] := ⟨_, rfl⟩
  have hf := lt1_n e1 hf
  have nc9 : c9.length = c8.length + 1 := by rw [e1]; simp
  obtain ⟨c10, h1, hf⟩ := bs hf
  have nc10 := ptR_len h1
  cases hf
  omega
set_option maxHeartbeats 4000000 in
set_option maxRecDepth 100000 in
theorem kX2_init_ok {l : Launch} {E : Ev} {x0 : Nat} {cs cs' : List RC} {mm mm' : Mem} (hf : kX2_init (eB E) x0 cs mm = some (cs', mm')) : CtN l yX2_init cX2_init 1 1 40 5 174 E [.ref (eB E + x0)] cs mm cs' mm' := by
  refine Met.ofW (cc := cX2_init) (maxL := 1) (ret := none) (by decide) rfl ?_
  intro p e s m args below meth c s₁ B hml hv
  obtain ⟨rfl, X, hS, hr, hlocks, hin, hz, hsz⟩ := am_inN B hv rfl
  refine am_entry (Nat.le_of_ble_eq_true rfl) (fun ls hl => ?_)
  have hl : lv_has ls 1 [(0, .ref (eB E + x0))] := hl
  have hx := X.1
  have hb := X.2.1
  unfold kX2_init at hf
  refine lv_aload_n hx hb dX2_init_0 rfl (lv_at hl 0 rfl) ?_
  refine am_obj X (hml.trans hl.1.symm) (inBi 309 (by decide +kernel)) (inBi 127 (by decide +kernel)) (inB (List.mem_of_getElem? (i := 128) rfl) rfl) dX2_init_1 (Nat.le_of_ble_eq_true rfl) (Nat.le_of_ble_eq_true rfl) ?_
  refine lv_aload_n hx hb dX2_init_4 rfl (lv_at hl 0 rfl) ?_
  refine lv_bipush (v := 42) hx hb dX2_init_5 (by decide) ?_
  refine am_nI (N' := 42) X hS hz (by omega) (inBi 157 (by decide +kernel)) (by decide) (by decide) (Nat.le_of_ble_eq_true rfl) (Nat.le_of_ble_eq_true rfl) (Nat.le_of_ble_eq_true rfl) dX2_init_7 (fun H hS => ?_)
  obtain ⟨c1, e1⟩ : ∃ z, z = cs ++ [(.inl 42 : RC)] := ⟨_, rfl⟩
  have hf := lt1_n e1 hf
  have nc1 : c1.length = cs.length + 1 := by rw [e1]; simp
  rw [← e1] at hS
  have hz := hz.le (cs' := c1) (by omega)
  have X := X.to c1
  obtain ⟨c2, h1, hf⟩ := bs hf
  have nc2 := ptR_len h1
  refine am_ptR X hS fg_X2_9 rfl hin h1 dX2_init_9 (fun H locs hS => ?_)
  have hz := hz.le (cs' := c2) (by omega)
  have X := X.to c2
  refine lv_aload_n hx hb dX2_init_12 rfl (lv_at hl 0 rfl) ?_
  refine lv_bipush (v := 42) hx hb dX2_init_13 (by decide) ?_
  refine am_nI (N' := 42) X hS hz (by omega) (inBi 157 (by decide +kernel)) (by decide) (by decide) (Nat.le_of_ble_eq_true rfl) (Nat.le_of_ble_eq_true rfl) (Nat.le_of_ble_eq_true rfl) dX2_init_15 (fun H hS => ?_)
  obtain ⟨c3, e1⟩ : ∃ z, z = c2 ++ [(.inl 42 : RC)] := ⟨_, rfl⟩
  have hf := lt1_n e1 hf
  have nc3 : c3.length = c2.length + 1 := by rw [e1]; simp
  rw [← e1] at hS
  have hz := hz.le (cs' := c3) (by omega)
  have X := X.to c3
  obtain ⟨c4, h1, hf⟩ := bs hf
  have nc4 := ptR_len h1
  refine am_ptR X hS fg_X2_15 rfl hin h1 dX2_init_17 (fun H locs hS => ?_)
  have hz := hz.le (cs' := c4) (by omega)
  have X := X.to c4
  refine lv_aload_n hx hb dX2_init_20 rfl (lv_at hl 0 rfl) ?_
  refine lv_bipush (v := 42) hx hb dX2_init_21 (by decide) ?_
  refine am_nI (N' := 42) X hS hz (by omega) (inBi 157 (by decide +kernel)) (by decide) (by decide) (Nat.le_of_ble_eq_true rfl) (Nat.le_of_ble_eq_true rfl) (Nat.le_of_ble_eq_true rfl) dX2_init_23 (fun H hS => ?_)
  obtain ⟨c5, e1⟩ : ∃ z, z = c4 ++ [(.inl 42 : RC)] := ⟨_, rfl⟩
  have hf := lt1_n e1 hf
  have nc5 : c5.length = c4.length + 1 := by rw [e1]; simp
  rw [← e1] at hS
  have hz := hz.le (cs' := c5) (by omega)
  have X := X.to c5
  obtain ⟨c6, h1, hf⟩ := bs hf
  have nc6 := ptR_len h1
  refine am_ptR X hS fg_X2_18 rfl hin h1 dX2_init_25 (fun H locs hS => ?_)
  have hz := hz.le (cs' := c6) (by omega)
  have X := X.to c6
  refine lv_aload_n hx hb dX2_init_28 rfl (lv_at hl 0 rfl) ?_
  refine lv_bipush (v := 42) hx hb dX2_init_29 (by decide) ?_
  refine am_nI (N' := 42) X hS hz (by omega) (inBi 157 (by decide +kernel)) (by decide) (by decide) (Nat.le_of_ble_eq_true rfl) (Nat.le_of_ble_eq_true rfl) (Nat.le_of_ble_eq_true rfl) dX2_init_31 (fun H hS => ?_)
  obtain ⟨c7, e1⟩ : ∃ z, z = c6 ++ [(.inl 42 : RC)] := ⟨_, rfl⟩
  have hf := lt1_n e1 hf
  have nc7 : c7.length = c6.length + 1 := by rw [e1]; simp
  rw [← e1] at hS
  have hz := hz.le (cs' := c7) (by omega)
  have X := X.to c7
  obtain ⟨c8, h1, hf⟩ := bs hf
  have nc8 := ptR_len h1
  refine am_ptR X hS fg_X2_21 rfl hin h1 dX2_init_33 (fun H locs hS => ?_)
  have hz := hz.le (cs' := c8) (by omega)
  have X := X.to c8
  refine lv_aload_n hx hb dX2_init_36 rfl (lv_at hl 0 rfl) ?_
  refine lv_bipush (v := 6) hx hb dX2_init_37 (by decide) ?_
  refine am_nI (N' := 6) X hS hz (by omega) (inBi 157 (by decide +kernel)) (by decide) (by decide) (Nat.le_of_ble_eq_true rfl) (Nat.le_of_ble_eq_true rfl) (Nat.le_of_ble_eq_true rfl) dX2_init_39 (fun H hS => ?_)
  obtain ⟨c9, e1⟩ : ∃ z, z = c8 ++ [(.inl 6 : RC)] := ⟨_, rfl⟩
  have hf := lt1_n e1 hf
  have nc9 : c9.length = c8.length + 1 := by rw [e1]; simp
  rw [← e1] at hS
  have hz := hz.le (cs' := c9) (by omega)
  have X := X.to c9
  obtain ⟨c10, h1, hf⟩ := bs hf
  have nc10 := ptR_len h1
  refine am_ptR X hS fg_X2_24 rfl hin h1 dX2_init_41 (fun H locs hS => ?_)
  have hz := hz.le (cs' := c10) (by omega)
  have X := X.to c10
  cases hf
  exact am_rvN X hS hz hr dX2_init_44 hlocks
theorem kX7_init_len {B : Nat} {x0 : Nat} {cs cs' : List RC} {mm mm' : Mem} (hf : kX7_init B x0 cs mm = some (cs', mm')) : cs'.length = cs.length + 97 := by
  unfold kX7_init at hf
  obtain ⟨c1, e1⟩ : ∃ z, z = cs ++ [(.inr (.inr (0, 16, [])) : RC)] := ⟨_, rfl⟩
  have hf := lt1_n e1 hf
  have nc1 : c1.length = cs.length + 1 := by rw [e1]; simp
  obtain ⟨c2, h1, hf⟩ := bs hf
  have nc2 := ptR_len h1
  obtain ⟨g3, h1, hf⟩ := bs hf
  obtain ⟨c4, e1⟩ : ∃ z, z = c2 ++ [(.inr (.inl (2, [])) : RC)] := ⟨_, rfl⟩
  have hf := lt1_n e1 hf
  have nc4 : c4.length = c2.length + 1 := by rw [e1]; simp
  obtain ⟨c5, m6, h1, hf⟩ := bs2 hf
  have nc5 := kX2_init_len h1
  obtain ⟨c7, h1, hf⟩ := bs hf
  have nc7 := stR_len h1
  obtain ⟨g8, h1, hf⟩ := bs hf
  obtain ⟨c9, e1⟩ : ∃ z, z = c7 ++ [(.inr (.inl (2, [])) : RC)] := ⟨_, rfl⟩
  have hf := lt1_n e1 hf
  have nc9 : c9.length = c7.length + 1 := by rw [e1]; simp
  obtain ⟨c10, m11, h1, hf⟩ := bs2 hf
  have nc10 := kX2_init_len h1
  obtain ⟨c12, h1, hf⟩ := bs hf
  have nc12 := stR_len h1
  obtain ⟨g13, h1, hf⟩ := bs hf
  obtain ⟨c14, e1⟩ : ∃ z, z = c12 ++ [(.inr (.inl (2, [])) : RC)] := ⟨_, rfl⟩
  have hf := lt1_n e1 hf
  have nc14 : c14.length = c12.length + 1 := by rw [e1]; simp
  obtain ⟨c15, m16, h1, hf⟩ := bs2 hf
  have nc15 := kX2_init_len h1
  obtain ⟨c17, h1, hf⟩ := bs hf
  have nc17 := stR_len h1
  obtain ⟨g18, h1, hf⟩ := bs hf
  obtain ⟨c19, e1⟩ : ∃ z, z = c17 ++ [(.inr (.inl (2, [])) : RC)] := ⟨_, rfl⟩
  have hf := lt1_n e1 hf
  have nc19 : c19.length = c17.length + 1 := by rw [e1]; simp
  obtain ⟨c20, m21, h1, hf⟩ := bs2 hf
  have nc20 := kX2_init_len h1
  obtain ⟨c22, h1, hf⟩ := bs hf
  have nc22 := stR_len h1
  obtain ⟨g23, h1, hf⟩ := bs hf
  obtain ⟨c24, e1⟩ : ∃ z, z = c22 ++ [(.inr (.inl (2, [])) : RC)] := ⟨_, rfl⟩
  have hf := lt1_n e1 hf
  have nc24 : c24.length = c22.length + 1 := by rw [e1]; simp
  obtain ⟨c25, m26, h1, hf⟩ := bs2 hf
  have nc25 := kX2_init_len h1
  obtain ⟨c27, h1, hf⟩ := bs hf
  have nc27 := stR_len h1
  obtain ⟨g28, h1, hf⟩ := bs hf
  obtain ⟨c29, e1⟩ : ∃ z, z = c27 ++ [(.inr (.inl (2, [])) : RC)] := ⟨_, rfl⟩
  have hf := lt1_n e1 hf
  have nc29 : c29.length = c27.length + 1 := by rw [e1]; simp
  obtain ⟨c30, m31, h1, hf⟩ := bs2 hf
  have nc30 := kX2_init_len h1
  obtain ⟨c32, h1, hf⟩ := bs hf
  have nc32 := stR_len h1
  obtain ⟨g33, h1, hf⟩ := bs hf
  obtain ⟨c34, e1⟩ : ∃ z, z = c32 ++ [(.inr (.inl (2, [])) : RC)] := ⟨_, rfl⟩
  have hf := lt1_n e1 hf
  have nc34 : c34.length = c32.length + 1 := by rw [e1]; simp
  obtain ⟨c35, m36, h1, hf⟩ := bs2 hf
  have nc35 := kX2_init_len h1
  obtain ⟨c37, h1, hf⟩ := bs hf
  have nc37 := stR_len h1
  obtain ⟨g38, h1, hf⟩ := bs hf
  obtain ⟨c39, e1⟩ : ∃ z, z = c37 ++ [(.inr (.inl (2, [])) : RC)] := ⟨_, rfl⟩
  have hf := lt1_n e1 hf
  have nc39 : c39.length = c37.length + 1 := by rw [e1]; simp
  obtain ⟨c40, m41, h1, hf⟩ := bs2 hf
  have nc40 := kX2_init_len h1
  obtain ⟨c42, h1, hf⟩ := bs hf
  have nc42 := stR_len h1
  obtain ⟨g43, h1, hf⟩ := bs hf
  obtain ⟨c44, e1⟩ : ∃ z, z = c42 ++ [(.inr (.inl (2, [])) : RC)] := ⟨_, rfl⟩
  have hf := lt1_n e1 hf
  have nc44 : c44.length = c42.length + 1 := by rw [e1]; simp
  obtain ⟨c45, m46, h1, hf⟩ := bs2 hf
  have nc45 := kX2_init_len h1
  obtain ⟨c47, h1, hf⟩ := bs hf
  have nc47 := stR_len h1
  obtain ⟨g48, h1, hf⟩ := bs hf
  obtain ⟨c49, e1⟩ : ∃ z, z = c47 ++ [(.inr (.inl (2, [])) : RC)] := ⟨_, rfl⟩
  have hf := lt1_n e1 hf
  have nc49 : c49.length = c47.length + 1 := by rw [e1]; simp
  obtain ⟨c50, m51, h1, hf⟩ := bs2 hf
  have nc50 := kX2_init_len h1
  obtain ⟨c52, h1, hf⟩ := bs hf
  have nc52 := stR_len h1
  obtain ⟨g53, h1, hf⟩ := bs hf
  obtain ⟨c54, e1⟩ : ∃ z, z = c52 ++ [(.inr (.inl (2, [])) : RC)] := ⟨_, rfl⟩
  have hf := lt1_n e1 hf
  have nc54 : c54.length = c52.length + 1 := by rw [e1]; simp
  obtain ⟨c55, m56, h1, hf⟩ := bs2 hf
  have nc55 := kX2_init_len h1
  obtain ⟨c57, h1, hf⟩ := bs hf
  have nc57 := stR_len h1
  obtain ⟨g58, h1, hf⟩ := bs hf
  obtain ⟨c59, e1⟩ : ∃ z, z = c57 ++ [(.inr (.inl (2, [])) : RC)] := ⟨_, rfl⟩
  have hf := lt1_n e1 hf
  have nc59 : c59.length = c57.length + 1 := by rw [e1]; simp
  obtain ⟨c60, m61, h1, hf⟩ := bs2 hf
  have nc60 := kX2_init_len h1
  obtain ⟨c62, h1, hf⟩ := bs hf
  have nc62 := stR_len h1
  obtain ⟨g63, h1, hf⟩ := bs hf
  obtain ⟨c64, e1⟩ : ∃ z, z = c62 ++ [(.inr (.inl (2, [])) : RC)] := ⟨_, rfl⟩
  have hf := lt1_n e1 hf
  have nc64 : c64.length = c62.length + 1 := by rw [e1]; simp
  obtain ⟨c65, m66, h1, hf⟩ := bs2 hf
  have nc65 := kX2_init_len h1
  obtain ⟨c67, h1, hf⟩ := bs hf
  have nc67 := stR_len h1
  obtain ⟨g68, h1, hf⟩ := bs hf
  obtain ⟨c69, e1⟩ : ∃ z, z = c67 ++ [(.inr (.inl (2, [])) : RC)] := ⟨_, rfl⟩
  have hf := lt1_n e1 hf
  have nc69 : c69.length = c67.length + 1 := by rw [e1]; simp
  obtain ⟨c70, m71, h1, hf⟩ := bs2 hf
  have nc70 := kX2_init_len h1
  obtain ⟨c72, h1, hf⟩ := bs hf
  have nc72 := stR_len h1
  obtain ⟨g73, h1, hf⟩ := bs hf
  obtain ⟨c74, e1⟩ : ∃ z, z = c72 ++ [(.inr (.inl (2, [])) : RC)] := ⟨_, rfl⟩
  have hf := lt1_n e1 hf
  have nc74 : c74.length = c72.length + 1 := by rw [e1]; simp
  obtain ⟨c75, m76, h1, hf⟩ := bs2 hf
  have nc75 := kX2_init_len h1
  obtain ⟨c77, h1, hf⟩ := bs hf
  have nc77 := stR_len h1
  obtain ⟨g78, h1, hf⟩ := bs hf
  obtain ⟨c79, e1⟩ : ∃ z, z = c77 ++ [(.inr (.inl (2, [])) : RC)] := ⟨_, rfl⟩
  have hf := lt1_n e1 hf
  have nc79 : c79.length = c77.length + 1 := by rw [e1]; simp
  obtain ⟨c80, m81, h1, hf⟩ := bs2 hf
  have nc80 := kX2_init_len h1
  obtain ⟨c82, h1, hf⟩ := bs hf
  have nc82 := stR_len h1
  cases hf
  omega
set_option maxHeartbeats 4000000 in
set_option maxRecDepth 100000 in
theorem kX7_init_ok {l : Launch} {E : Ev} {x0 : Nat} {cs cs' : List RC} {mm mm' : Mem} (hf : kX7_init (eB E) x0 cs mm = some (cs', mm')) : CtN l yX7_init cX7_init 2 2 60 97 2896 E [.ref (eB E + x0)] cs mm cs' mm' := by
  refine Met.ofW (cc := cX7_init) (maxL := 2) (ret := none) (by decide) rfl ?_
  intro p e s m args below meth c s₁ B hml hv
  obtain ⟨rfl, X, hS, hr, hlocks, hin, hz, hsz⟩ := am_inN B hv rfl
  refine am_entry (Nat.le_of_ble_eq_true rfl) (fun ls hl => ?_)
  have hl : lv_has ls 2 [(0, .ref (eB E + x0))] := hl
  have hx := X.1
  have hb := X.2.1
  unfold kX7_init at hf
  refine lv_aload_n hx hb dX7_init_0 rfl (lv_at hl 0 rfl) ?_
  refine am_obj X (hml.trans hl.1.symm) (inBi 349 (by decide +kernel)) (inBi 127 (by decide +kernel)) (inB (List.mem_of_getElem? (i := 128) rfl) rfl) dX7_init_1 (Nat.le_of_ble_eq_true rfl) (Nat.le_of_ble_eq_true rfl) ?_
  refine lv_aload_n hx hb dX7_init_4 rfl (lv_at hl 0 rfl) ?_
  refine lv_bipush (v := 16) hx hb dX7_init_5 (by decide) ?_
  refine am_nR (N' := 16) (t := 0) (C := "PartedFellows$Hall") X hS (by omega) (by decide) rfl (inBi 350 (by decide +kernel)) (inNi 351 (by decide +kernel)) (by decide) (by decide) (Nat.le_of_ble_eq_true rfl) (Nat.le_of_ble_eq_true rfl) (Nat.le_of_ble_eq_true rfl) dX7_init_7 (fun H hS => ?_)
  obtain ⟨c1, e1⟩ : ∃ z, z = cs ++ [(.inr (.inr (0, 16, [])) : RC)] := ⟨_, rfl⟩
  have hf := lt1_n e1 hf
  have nc1 : c1.length = cs.length + 1 := by rw [e1]; simp
  rw [← e1] at hS
  have hz := hz.le (cs' := c1) (by omega)
  have X := X.to c1
  obtain ⟨c2, h1, hf⟩ := bs hf
  have nc2 := ptR_len h1
  refine am_ptR X hS fg_X7_11 rfl hin h1 dX7_init_10 (fun H locs hS => ?_)
  have hz := hz.le (cs' := c2) (by omega)
  have X := X.to c2
  refine lv_iconst (v := 0) hx hb dX7_init_13 (by decide) ?_
  refine lv_istore_n (lv' := [(1, .int 0), (0, .ref (eB E + x0))]) hx hb dX7_init_14 rfl hl (by decide) rfl (fun ls hl => ?_)
  refine lv_iload_n hx hb dX7_init_15 rfl (lv_at hl 0 rfl) ?_
  refine lv_bipush (v := 16) hx hb dX7_init_16 (by decide) ?_
  refine lv_icmp_ge (tgt := 40) hx hb dX7_init_18 (by decide) (fun q => absurd q (by decide)) (fun _ => ?_)
  refine lv_aload_n hx hb dX7_init_21 rfl (lv_at hl 1 rfl) ?_
  obtain ⟨g3, h1, hf⟩ := bs hf
  refine am_gr X hS fl_X7_11 rfl (gtR_n h1) dX7_init_22 ?_
  refine lv_iload_n hx hb dX7_init_25 rfl (lv_at hl 0 rfl) ?_
  refine am_nO (ci := 2) (N := 6) (C := RX2) (T := TX2) (ty := tyX2) X hS hz (by omega) rfl inU_X2 tyX2_ok (inBi 350 (by decide +kernel)) (inBi 305 (by decide +kernel)) (inBi 102 (by decide +kernel)) (by decide +kernel) (Nat.le_of_ble_eq_true rfl) (Nat.le_of_ble_eq_true rfl) dX7_init_26 (fun H hS => ?_)
  obtain ⟨c4, e1⟩ : ∃ z, z = c2 ++ [(.inr (.inl (2, [])) : RC)] := ⟨_, rfl⟩
  have hf := lt1_n e1 hf
  have nc4 : c4.length = c2.length + 1 := by rw [e1]; simp
  rw [← e1] at hS
  have hz := hz.le (cs' := c4) (by omega)
  have X := X.to c4
  refine lv_dup hx hb dX7_init_29 rfl ?_
  obtain ⟨c5, m6, h1, hf⟩ := bs2 hf
  have nc5 := kX2_init_len h1
  refine am_cN (As := []) X (hml.trans hl.1.symm) hS hz (by omega) (kX2_init_ok (l := l) (E := E) h1) mi_X7_17 ⟨Nat.le_of_ble_eq_true rfl, Nat.le_of_ble_eq_true rfl⟩ ⟨Nat.le_of_ble_eq_true rfl, Nat.le_of_ble_eq_true rfl⟩ rfl rfl (Nat.le_of_ble_eq_true rfl) dX7_init_30 (fun H locs hS hz => ?_)
  have X := X.to c5
  obtain ⟨c7, h1, hf⟩ := bs hf
  have nc7 := stR_len h1
  refine am_stR X hS h1 dX7_init_33 (fun H locs hS => ?_)
  have hz := hz.le (cs' := c7) (by omega)
  have X := X.to c7
  refine lv_iinc (v := 1) (lv' := [(1, .int 1), (0, .ref (eB E + x0))]) hx hb dX7_init_34 hl (k := 0) rfl (by decide) (by decide) rfl (fun ls hl => ?_)
  refine lv_goto (tgt := 15) hx hb dX7_init_37 (by decide) ?_
  refine lv_iload_n hx hb dX7_init_15 rfl (lv_at hl 0 rfl) ?_
  refine lv_bipush (v := 16) hx hb dX7_init_16 (by decide) ?_
  refine lv_icmp_ge (tgt := 40) hx hb dX7_init_18 (by decide) (fun q => absurd q (by decide)) (fun _ => ?_)
  refine lv_aload_n hx hb dX7_init_21 rfl (lv_at hl 1 rfl) ?_
  obtain ⟨g8, h1, hf⟩ := bs hf
  refine am_gr X hS fl_X7_11 rfl (gtR_n h1) dX7_init_22 ?_
  refine lv_iload_n hx hb dX7_init_25 rfl (lv_at hl 0 rfl) ?_
  refine am_nO (ci := 2) (N := 6) (C := RX2) (T := TX2) (ty := tyX2) X hS hz (by omega) rfl inU_X2 tyX2_ok (inBi 350 (by decide +kernel)) (inBi 305 (by decide +kernel)) (inBi 102 (by decide +kernel)) (by decide +kernel) (Nat.le_of_ble_eq_true rfl) (Nat.le_of_ble_eq_true rfl) dX7_init_26 (fun H hS => ?_)
  obtain ⟨c9, e1⟩ : ∃ z, z = c7 ++ [(.inr (.inl (2, [])) : RC)] := ⟨_, rfl⟩
  have hf := lt1_n e1 hf
  have nc9 : c9.length = c7.length + 1 := by rw [e1]; simp
  rw [← e1] at hS
  have hz := hz.le (cs' := c9) (by omega)
  have X := X.to c9
  refine lv_dup hx hb dX7_init_29 rfl ?_
  obtain ⟨c10, m11, h1, hf⟩ := bs2 hf
  have nc10 := kX2_init_len h1
  refine am_cN (As := []) X (hml.trans hl.1.symm) hS hz (by omega) (kX2_init_ok (l := l) (E := E) h1) mi_X7_17 ⟨Nat.le_of_ble_eq_true rfl, Nat.le_of_ble_eq_true rfl⟩ ⟨Nat.le_of_ble_eq_true rfl, Nat.le_of_ble_eq_true rfl⟩ rfl rfl (Nat.le_of_ble_eq_true rfl) dX7_init_30 (fun H locs hS hz => ?_)
  have X := X.to c10
  obtain ⟨c12, h1, hf⟩ := bs hf
  have nc12 := stR_len h1
  refine am_stR X hS h1 dX7_init_33 (fun H locs hS => ?_)
  have hz := hz.le (cs' := c12) (by omega)
  have X := X.to c12
  refine lv_iinc (v := 2) (lv' := [(1, .int 2), (0, .ref (eB E + x0))]) hx hb dX7_init_34 hl (k := 0) rfl (by decide) (by decide) rfl (fun ls hl => ?_)
  refine lv_goto (tgt := 15) hx hb dX7_init_37 (by decide) ?_
  refine lv_iload_n hx hb dX7_init_15 rfl (lv_at hl 0 rfl) ?_
  refine lv_bipush (v := 16) hx hb dX7_init_16 (by decide) ?_
  refine lv_icmp_ge (tgt := 40) hx hb dX7_init_18 (by decide) (fun q => absurd q (by decide)) (fun _ => ?_)
  refine lv_aload_n hx hb dX7_init_21 rfl (lv_at hl 1 rfl) ?_
  obtain ⟨g13, h1, hf⟩ := bs hf
  refine am_gr X hS fl_X7_11 rfl (gtR_n h1) dX7_init_22 ?_
  refine lv_iload_n hx hb dX7_init_25 rfl (lv_at hl 0 rfl) ?_
  refine am_nO (ci := 2) (N := 6) (C := RX2) (T := TX2) (ty := tyX2) X hS hz (by omega) rfl inU_X2 tyX2_ok (inBi 350 (by decide +kernel)) (inBi 305 (by decide +kernel)) (inBi 102 (by decide +kernel)) (by decide +kernel) (Nat.le_of_ble_eq_true rfl) (Nat.le_of_ble_eq_true rfl) dX7_init_26 (fun H hS => ?_)
  obtain ⟨c14, e1⟩ : ∃ z, z = c12 ++ [(.inr (.inl (2, [])) : RC)] := ⟨_, rfl⟩
  have hf := lt1_n e1 hf
  have nc14 : c14.length = c12.length + 1 := by rw [e1]; simp
  rw [← e1] at hS
  have hz := hz.le (cs' := c14) (by omega)
  have X := X.to c14
  refine lv_dup hx hb dX7_init_29 rfl ?_
  obtain ⟨c15, m16, h1, hf⟩ := bs2 hf
  have nc15 := kX2_init_len h1
  refine am_cN (As := []) X (hml.trans hl.1.symm) hS hz (by omega) (kX2_init_ok (l := l) (E := E) h1) mi_X7_17 ⟨Nat.le_of_ble_eq_true rfl, Nat.le_of_ble_eq_true rfl⟩ ⟨Nat.le_of_ble_eq_true rfl, Nat.le_of_ble_eq_true rfl⟩ rfl rfl (Nat.le_of_ble_eq_true rfl) dX7_init_30 (fun H locs hS hz => ?_)
  have X := X.to c15
  obtain ⟨c17, h1, hf⟩ := bs hf
  have nc17 := stR_len h1
  refine am_stR X hS h1 dX7_init_33 (fun H locs hS => ?_)
  have hz := hz.le (cs' := c17) (by omega)
  have X := X.to c17
  refine lv_iinc (v := 3) (lv' := [(1, .int 3), (0, .ref (eB E + x0))]) hx hb dX7_init_34 hl (k := 0) rfl (by decide) (by decide) rfl (fun ls hl => ?_)
  refine lv_goto (tgt := 15) hx hb dX7_init_37 (by decide) ?_
  refine lv_iload_n hx hb dX7_init_15 rfl (lv_at hl 0 rfl) ?_
  refine lv_bipush (v := 16) hx hb dX7_init_16 (by decide) ?_
  refine lv_icmp_ge (tgt := 40) hx hb dX7_init_18 (by decide) (fun q => absurd q (by decide)) (fun _ => ?_)
  refine lv_aload_n hx hb dX7_init_21 rfl (lv_at hl 1 rfl) ?_
  obtain ⟨g18, h1, hf⟩ := bs hf
  refine am_gr X hS fl_X7_11 rfl (gtR_n h1) dX7_init_22 ?_
  refine lv_iload_n hx hb dX7_init_25 rfl (lv_at hl 0 rfl) ?_
  refine am_nO (ci := 2) (N := 6) (C := RX2) (T := TX2) (ty := tyX2) X hS hz (by omega) rfl inU_X2 tyX2_ok (inBi 350 (by decide +kernel)) (inBi 305 (by decide +kernel)) (inBi 102 (by decide +kernel)) (by decide +kernel) (Nat.le_of_ble_eq_true rfl) (Nat.le_of_ble_eq_true rfl) dX7_init_26 (fun H hS => ?_)
  obtain ⟨c19, e1⟩ : ∃ z, z = c17 ++ [(.inr (.inl (2, [])) : RC)] := ⟨_, rfl⟩
  have hf := lt1_n e1 hf
  have nc19 : c19.length = c17.length + 1 := by rw [e1]; simp
  rw [← e1] at hS
  have hz := hz.le (cs' := c19) (by omega)
  have X := X.to c19
  refine lv_dup hx hb dX7_init_29 rfl ?_
  obtain ⟨c20, m21, h1, hf⟩ := bs2 hf
  have nc20 := kX2_init_len h1
  refine am_cN (As := []) X (hml.trans hl.1.symm) hS hz (by omega) (kX2_init_ok (l := l) (E := E) h1) mi_X7_17 ⟨Nat.le_of_ble_eq_true rfl, Nat.le_of_ble_eq_true rfl⟩ ⟨Nat.le_of_ble_eq_true rfl, Nat.le_of_ble_eq_true rfl⟩ rfl rfl (Nat.le_of_ble_eq_true rfl) dX7_init_30 (fun H locs hS hz => ?_)
  have X := X.to c20
  obtain ⟨c22, h1, hf⟩ := bs hf
  have nc22 := stR_len h1
  refine am_stR X hS h1 dX7_init_33 (fun H locs hS => ?_)
  have hz := hz.le (cs' := c22) (by omega)
  have X := X.to c22
  refine lv_iinc (v := 4) (lv' := [(1, .int 4), (0, .ref (eB E + x0))]) hx hb dX7_init_34 hl (k := 0) rfl (by decide) (by decide) rfl (fun ls hl => ?_)
  refine lv_goto (tgt := 15) hx hb dX7_init_37 (by decide) ?_
  refine lv_iload_n hx hb dX7_init_15 rfl (lv_at hl 0 rfl) ?_
  refine lv_bipush (v := 16) hx hb dX7_init_16 (by decide) ?_
  refine lv_icmp_ge (tgt := 40) hx hb dX7_init_18 (by decide) (fun q => absurd q (by decide)) (fun _ => ?_)
  refine lv_aload_n hx hb dX7_init_21 rfl (lv_at hl 1 rfl) ?_
  obtain ⟨g23, h1, hf⟩ := bs hf
  refine am_gr X hS fl_X7_11 rfl (gtR_n h1) dX7_init_22 ?_
  refine lv_iload_n hx hb dX7_init_25 rfl (lv_at hl 0 rfl) ?_
  refine am_nO (ci := 2) (N := 6) (C := RX2) (T := TX2) (ty := tyX2) X hS hz (by omega) rfl inU_X2 tyX2_ok (inBi 350 (by decide +kernel)) (inBi 305 (by decide +kernel)) (inBi 102 (by decide +kernel)) (by decide +kernel) (Nat.le_of_ble_eq_true rfl) (Nat.le_of_ble_eq_true rfl) dX7_init_26 (fun H hS => ?_)
  obtain ⟨c24, e1⟩ : ∃ z, z = c22 ++ [(.inr (.inl (2, [])) : RC)] := ⟨_, rfl⟩
  have hf := lt1_n e1 hf
  have nc24 : c24.length = c22.length + 1 := by rw [e1]; simp
  rw [← e1] at hS
  have hz := hz.le (cs' := c24) (by omega)
  have X := X.to c24
  refine lv_dup hx hb dX7_init_29 rfl ?_
  obtain ⟨c25, m26, h1, hf⟩ := bs2 hf
  have nc25 := kX2_init_len h1
  refine am_cN (As := []) X (hml.trans hl.1.symm) hS hz (by omega) (kX2_init_ok (l := l) (E := E) h1) mi_X7_17 ⟨Nat.le_of_ble_eq_true rfl, Nat.le_of_ble_eq_true rfl⟩ ⟨Nat.le_of_ble_eq_true rfl, Nat.le_of_ble_eq_true rfl⟩ rfl rfl (Nat.le_of_ble_eq_true rfl) dX7_init_30 (fun H locs hS hz => ?_)
  have X := X.to c25
  obtain ⟨c27, h1, hf⟩ := bs hf
  have nc27 := stR_len h1
  refine am_stR X hS h1 dX7_init_33 (fun H locs hS => ?_)
  have hz := hz.le (cs' := c27) (by omega)
  have X := X.to c27
  refine lv_iinc (v := 5) (lv' := [(1, .int 5), (0, .ref (eB E + x0))]) hx hb dX7_init_34 hl (k := 0) rfl (by decide) (by decide) rfl (fun ls hl => ?_)
  refine lv_goto (tgt := 15) hx hb dX7_init_37 (by decide) ?_
  refine lv_iload_n hx hb dX7_init_15 rfl (lv_at hl 0 rfl) ?_
  refine lv_bipush (v := 16) hx hb dX7_init_16 (by decide) ?_
  refine lv_icmp_ge (tgt := 40) hx hb dX7_init_18 (by decide) (fun q => absurd q (by decide)) (fun _ => ?_)
  refine lv_aload_n hx hb dX7_init_21 rfl (lv_at hl 1 rfl) ?_
  obtain ⟨g28, h1, hf⟩ := bs hf
  refine am_gr X hS fl_X7_11 rfl (gtR_n h1) dX7_init_22 ?_
  refine lv_iload_n hx hb dX7_init_25 rfl (lv_at hl 0 rfl) ?_
  refine am_nO (ci := 2) (N := 6) (C := RX2) (T := TX2) (ty := tyX2) X hS hz (by omega) rfl inU_X2 tyX2_ok (inBi 350 (by decide +kernel)) (inBi 305 (by decide +kernel)) (inBi 102 (by decide +kernel)) (by decide +kernel) (Nat.le_of_ble_eq_true rfl) (Nat.le_of_ble_eq_true rfl) dX7_init_26 (fun H hS => ?_)
  obtain ⟨c29, e1⟩ : ∃ z, z = c27 ++ [(.inr (.inl (2, [])) : RC)] := ⟨_, rfl⟩
  have hf := lt1_n e1 hf
  have nc29 : c29.length = c27.length + 1 := by rw [e1]; simp
  rw [← e1] at hS
  have hz := hz.le (cs' := c29) (by omega)
  have X := X.to c29
  refine lv_dup hx hb dX7_init_29 rfl ?_
  obtain ⟨c30, m31, h1, hf⟩ := bs2 hf
  have nc30 := kX2_init_len h1
  refine am_cN (As := []) X (hml.trans hl.1.symm) hS hz (by omega) (kX2_init_ok (l := l) (E := E) h1) mi_X7_17 ⟨Nat.le_of_ble_eq_true rfl, Nat.le_of_ble_eq_true rfl⟩ ⟨Nat.le_of_ble_eq_true rfl, Nat.le_of_ble_eq_true rfl⟩ rfl rfl (Nat.le_of_ble_eq_true rfl) dX7_init_30 (fun H locs hS hz => ?_)
  have X := X.to c30
  obtain ⟨c32, h1, hf⟩ := bs hf
  have nc32 := stR_len h1
  refine am_stR X hS h1 dX7_init_33 (fun H locs hS => ?_)
  have hz := hz.le (cs' := c32) (by omega)
  have X := X.to c32
  refine lv_iinc (v := 6) (lv' := [(1, .int 6), (0, .ref (eB E + x0))]) hx hb dX7_init_34 hl (k := 0) rfl (by decide) (by decide) rfl (fun ls hl => ?_)
  refine lv_goto (tgt := 15) hx hb dX7_init_37 (by decide) ?_
  refine lv_iload_n hx hb dX7_init_15 rfl (lv_at hl 0 rfl) ?_
  refine lv_bipush (v := 16) hx hb dX7_init_16 (by decide) ?_
  refine lv_icmp_ge (tgt := 40) hx hb dX7_init_18 (by decide) (fun q => absurd q (by decide)) (fun _ => ?_)
  refine lv_aload_n hx hb dX7_init_21 rfl (lv_at hl 1 rfl) ?_
  obtain ⟨g33, h1, hf⟩ := bs hf
  refine am_gr X hS fl_X7_11 rfl (gtR_n h1) dX7_init_22 ?_
  refine lv_iload_n hx hb dX7_init_25 rfl (lv_at hl 0 rfl) ?_
  refine am_nO (ci := 2) (N := 6) (C := RX2) (T := TX2) (ty := tyX2) X hS hz (by omega) rfl inU_X2 tyX2_ok (inBi 350 (by decide +kernel)) (inBi 305 (by decide +kernel)) (inBi 102 (by decide +kernel)) (by decide +kernel) (Nat.le_of_ble_eq_true rfl) (Nat.le_of_ble_eq_true rfl) dX7_init_26 (fun H hS => ?_)
  obtain ⟨c34, e1⟩ : ∃ z, z = c32 ++ [(.inr (.inl (2, [])) : RC)] := ⟨_, rfl⟩
  have hf := lt1_n e1 hf
  have nc34 : c34.length = c32.length + 1 := by rw [e1]; simp
  rw [← e1] at hS
  have hz := hz.le (cs' := c34) (by omega)
  have X := X.to c34
  refine lv_dup hx hb dX7_init_29 rfl ?_
  obtain ⟨c35, m36, h1, hf⟩ := bs2 hf
  have nc35 := kX2_init_len h1
  refine am_cN (As := []) X (hml.trans hl.1.symm) hS hz (by omega) (kX2_init_ok (l := l) (E := E) h1) mi_X7_17 ⟨Nat.le_of_ble_eq_true rfl, Nat.le_of_ble_eq_true rfl⟩ ⟨Nat.le_of_ble_eq_true rfl, Nat.le_of_ble_eq_true rfl⟩ rfl rfl (Nat.le_of_ble_eq_true rfl) dX7_init_30 (fun H locs hS hz => ?_)
  have X := X.to c35
  obtain ⟨c37, h1, hf⟩ := bs hf
  have nc37 := stR_len h1
  refine am_stR X hS h1 dX7_init_33 (fun H locs hS => ?_)
  have hz := hz.le (cs' := c37) (by omega)
  have X := X.to c37
  refine lv_iinc (v := 7) (lv' := [(1, .int 7), (0, .ref (eB E + x0))]) hx hb dX7_init_34 hl (k := 0) rfl (by decide) (by decide) rfl (fun ls hl => ?_)
  refine lv_goto (tgt := 15) hx hb dX7_init_37 (by decide) ?_
  refine lv_iload_n hx hb dX7_init_15 rfl (lv_at hl 0 rfl) ?_
  refine lv_bipush (v := 16) hx hb dX7_init_16 (by decide) ?_
  refine lv_icmp_ge (tgt := 40) hx hb dX7_init_18 (by decide) (fun q => absurd q (by decide)) (fun _ => ?_)
  refine lv_aload_n hx hb dX7_init_21 rfl (lv_at hl 1 rfl) ?_
  obtain ⟨g38, h1, hf⟩ := bs hf
  refine am_gr X hS fl_X7_11 rfl (gtR_n h1) dX7_init_22 ?_
  refine lv_iload_n hx hb dX7_init_25 rfl (lv_at hl 0 rfl) ?_
  refine am_nO (ci := 2) (N := 6) (C := RX2) (T := TX2) (ty := tyX2) X hS hz (by omega) rfl inU_X2 tyX2_ok (inBi 350 (by decide +kernel)) (inBi 305 (by decide +kernel)) (inBi 102 (by decide +kernel)) (by decide +kernel) (Nat.le_of_ble_eq_true rfl) (Nat.le_of_ble_eq_true rfl) dX7_init_26 (fun H hS => ?_)
  obtain ⟨c39, e1⟩ : ∃ z, z = c37 ++ [(.inr (.inl (2, [])) : RC)] := ⟨_, rfl⟩
  have hf := lt1_n e1 hf
  have nc39 : c39.length = c37.length + 1 := by rw [e1]; simp
  rw [← e1] at hS
  have hz := hz.le (cs' := c39) (by omega)
  have X := X.to c39
  refine lv_dup hx hb dX7_init_29 rfl ?_
  obtain ⟨c40, m41, h1, hf⟩ := bs2 hf
  have nc40 := kX2_init_len h1
  refine am_cN (As := []) X (hml.trans hl.1.symm) hS hz (by omega) (kX2_init_ok (l := l) (E := E) h1) mi_X7_17 ⟨Nat.le_of_ble_eq_true rfl, Nat.le_of_ble_eq_true rfl⟩ ⟨Nat.le_of_ble_eq_true rfl, Nat.le_of_ble_eq_true rfl⟩ rfl rfl (Nat.le_of_ble_eq_true rfl) dX7_init_30 (fun H locs hS hz => ?_)
  have X := X.to c40
  obtain ⟨c42, h1, hf⟩ := bs hf
  have nc42 := stR_len h1
  refine am_stR X hS h1 dX7_init_33 (fun H locs hS => ?_)
  have hz := hz.le (cs' := c42) (by omega)
  have X := X.to c42
  refine lv_iinc (v := 8) (lv' := [(1, .int 8), (0, .ref (eB E + x0))]) hx hb dX7_init_34 hl (k := 0) rfl (by decide) (by decide) rfl (fun ls hl => ?_)
  refine lv_goto (tgt := 15) hx hb dX7_init_37 (by decide) ?_
  refine lv_iload_n hx hb dX7_init_15 rfl (lv_at hl 0 rfl) ?_
  refine lv_bipush (v := 16) hx hb dX7_init_16 (by decide) ?_
  refine lv_icmp_ge (tgt := 40) hx hb dX7_init_18 (by decide) (fun q => absurd q (by decide)) (fun _ => ?_)
  refine lv_aload_n hx hb dX7_init_21 rfl (lv_at hl 1 rfl) ?_
  obtain ⟨g43, h1, hf⟩ := bs hf
  refine am_gr X hS fl_X7_11 rfl (gtR_n h1) dX7_init_22 ?_
  refine lv_iload_n hx hb dX7_init_25 rfl (lv_at hl 0 rfl) ?_
  refine am_nO (ci := 2) (N := 6) (C := RX2) (T := TX2) (ty := tyX2) X hS hz (by omega) rfl inU_X2 tyX2_ok (inBi 350 (by decide +kernel)) (inBi 305 (by decide +kernel)) (inBi 102 (by decide +kernel)) (by decide +kernel) (Nat.le_of_ble_eq_true rfl) (Nat.le_of_ble_eq_true rfl) dX7_init_26 (fun H hS => ?_)
  obtain ⟨c44, e1⟩ : ∃ z, z = c42 ++ [(.inr (.inl (2, [])) : RC)] := ⟨_, rfl⟩
  have hf := lt1_n e1 hf
  have nc44 : c44.length = c42.length + 1 := by rw [e1]; simp
  rw [← e1] at hS
  have hz := hz.le (cs' := c44) (by omega)
  have X := X.to c44
  refine lv_dup hx hb dX7_init_29 rfl ?_
  obtain ⟨c45, m46, h1, hf⟩ := bs2 hf
  have nc45 := kX2_init_len h1
  refine am_cN (As := []) X (hml.trans hl.1.symm) hS hz (by omega) (kX2_init_ok (l := l) (E := E) h1) mi_X7_17 ⟨Nat.le_of_ble_eq_true rfl, Nat.le_of_ble_eq_true rfl⟩ ⟨Nat.le_of_ble_eq_true rfl, Nat.le_of_ble_eq_true rfl⟩ rfl rfl (Nat.le_of_ble_eq_true rfl) dX7_init_30 (fun H locs hS hz => ?_)
  have X := X.to c45
  obtain ⟨c47, h1, hf⟩ := bs hf
  have nc47 := stR_len h1
  refine am_stR X hS h1 dX7_init_33 (fun H locs hS => ?_)
  have hz := hz.le (cs' := c47) (by omega)
  have X := X.to c47
  refine lv_iinc (v := 9) (lv' := [(1, .int 9), (0, .ref (eB E + x0))]) hx hb dX7_init_34 hl (k := 0) rfl (by decide) (by decide) rfl (fun ls hl => ?_)
  refine lv_goto (tgt := 15) hx hb dX7_init_37 (by decide) ?_
  refine lv_iload_n hx hb dX7_init_15 rfl (lv_at hl 0 rfl) ?_
  refine lv_bipush (v := 16) hx hb dX7_init_16 (by decide) ?_
  refine lv_icmp_ge (tgt := 40) hx hb dX7_init_18 (by decide) (fun q => absurd q (by decide)) (fun _ => ?_)
  refine lv_aload_n hx hb dX7_init_21 rfl (lv_at hl 1 rfl) ?_
  obtain ⟨g48, h1, hf⟩ := bs hf
  refine am_gr X hS fl_X7_11 rfl (gtR_n h1) dX7_init_22 ?_
  refine lv_iload_n hx hb dX7_init_25 rfl (lv_at hl 0 rfl) ?_
  refine am_nO (ci := 2) (N := 6) (C := RX2) (T := TX2) (ty := tyX2) X hS hz (by omega) rfl inU_X2 tyX2_ok (inBi 350 (by decide +kernel)) (inBi 305 (by decide +kernel)) (inBi 102 (by decide +kernel)) (by decide +kernel) (Nat.le_of_ble_eq_true rfl) (Nat.le_of_ble_eq_true rfl) dX7_init_26 (fun H hS => ?_)
  obtain ⟨c49, e1⟩ : ∃ z, z = c47 ++ [(.inr (.inl (2, [])) : RC)] := ⟨_, rfl⟩
  have hf := lt1_n e1 hf
  have nc49 : c49.length = c47.length + 1 := by rw [e1]; simp
  rw [← e1] at hS
  have hz := hz.le (cs' := c49) (by omega)
  have X := X.to c49
  refine lv_dup hx hb dX7_init_29 rfl ?_
  obtain ⟨c50, m51, h1, hf⟩ := bs2 hf
  have nc50 := kX2_init_len h1
  refine am_cN (As := []) X (hml.trans hl.1.symm) hS hz (by omega) (kX2_init_ok (l := l) (E := E) h1) mi_X7_17 ⟨Nat.le_of_ble_eq_true rfl, Nat.le_of_ble_eq_true rfl⟩ ⟨Nat.le_of_ble_eq_true rfl, Nat.le_of_ble_eq_true rfl⟩ rfl rfl (Nat.le_of_ble_eq_true rfl) dX7_init_30 (fun H locs hS hz => ?_)
  have X := X.to c50
  obtain ⟨c52, h1, hf⟩ := bs hf
  have nc52 := stR_len h1
  refine am_stR X hS h1 dX7_init_33 (fun H locs hS => ?_)
  have hz := hz.le (cs' := c52) (by omega)
  have X := X.to c52
  refine lv_iinc (v := 10) (lv' := [(1, .int 10), (0, .ref (eB E + x0))]) hx hb dX7_init_34 hl (k := 0) rfl (by decide) (by decide) rfl (fun ls hl => ?_)
  refine lv_goto (tgt := 15) hx hb dX7_init_37 (by decide) ?_
  refine lv_iload_n hx hb dX7_init_15 rfl (lv_at hl 0 rfl) ?_
  refine lv_bipush (v := 16) hx hb dX7_init_16 (by decide) ?_
  refine lv_icmp_ge (tgt := 40) hx hb dX7_init_18 (by decide) (fun q => absurd q (by decide)) (fun _ => ?_)
  refine lv_aload_n hx hb dX7_init_21 rfl (lv_at hl 1 rfl) ?_
  obtain ⟨g53, h1, hf⟩ := bs hf
  refine am_gr X hS fl_X7_11 rfl (gtR_n h1) dX7_init_22 ?_
  refine lv_iload_n hx hb dX7_init_25 rfl (lv_at hl 0 rfl) ?_
  refine am_nO (ci := 2) (N := 6) (C := RX2) (T := TX2) (ty := tyX2) X hS hz (by omega) rfl inU_X2 tyX2_ok (inBi 350 (by decide +kernel)) (inBi 305 (by decide +kernel)) (inBi 102 (by decide +kernel)) (by decide +kernel) (Nat.le_of_ble_eq_true rfl) (Nat.le_of_ble_eq_true rfl) dX7_init_26 (fun H hS => ?_)
  obtain ⟨c54, e1⟩ : ∃ z, z = c52 ++ [(.inr (.inl (2, [])) : RC)] := ⟨_, rfl⟩
  have hf := lt1_n e1 hf
  have nc54 : c54.length = c52.length + 1 := by rw [e1]; simp
  rw [← e1] at hS
  have hz := hz.le (cs' := c54) (by omega)
  have X := X.to c54
  refine lv_dup hx hb dX7_init_29 rfl ?_
  obtain ⟨c55, m56, h1, hf⟩ := bs2 hf
  have nc55 := kX2_init_len h1
  refine am_cN (As := []) X (hml.trans hl.1.symm) hS hz (by omega) (kX2_init_ok (l := l) (E := E) h1) mi_X7_17 ⟨Nat.le_of_ble_eq_true rfl, Nat.le_of_ble_eq_true rfl⟩ ⟨Nat.le_of_ble_eq_true rfl, Nat.le_of_ble_eq_true rfl⟩ rfl rfl (Nat.le_of_ble_eq_true rfl) dX7_init_30 (fun H locs hS hz => ?_)
  have X := X.to c55
  obtain ⟨c57, h1, hf⟩ := bs hf
  have nc57 := stR_len h1
  refine am_stR X hS h1 dX7_init_33 (fun H locs hS => ?_)
  have hz := hz.le (cs' := c57) (by omega)
  have X := X.to c57
  refine lv_iinc (v := 11) (lv' := [(1, .int 11), (0, .ref (eB E + x0))]) hx hb dX7_init_34 hl (k := 0) rfl (by decide) (by decide) rfl (fun ls hl => ?_)
  refine lv_goto (tgt := 15) hx hb dX7_init_37 (by decide) ?_
  refine lv_iload_n hx hb dX7_init_15 rfl (lv_at hl 0 rfl) ?_
  refine lv_bipush (v := 16) hx hb dX7_init_16 (by decide) ?_
  refine lv_icmp_ge (tgt := 40) hx hb dX7_init_18 (by decide) (fun q => absurd q (by decide)) (fun _ => ?_)
  refine lv_aload_n hx hb dX7_init_21 rfl (lv_at hl 1 rfl) ?_
  obtain ⟨g58, h1, hf⟩ := bs hf
  refine am_gr X hS fl_X7_11 rfl (gtR_n h1) dX7_init_22 ?_
  refine lv_iload_n hx hb dX7_init_25 rfl (lv_at hl 0 rfl) ?_
  refine am_nO (ci := 2) (N := 6) (C := RX2) (T := TX2) (ty := tyX2) X hS hz (by omega) rfl inU_X2 tyX2_ok (inBi 350 (by decide +kernel)) (inBi 305 (by decide +kernel)) (inBi 102 (by decide +kernel)) (by decide +kernel) (Nat.le_of_ble_eq_true rfl) (Nat.le_of_ble_eq_true rfl) dX7_init_26 (fun H hS => ?_)
  obtain ⟨c59, e1⟩ : ∃ z, z = c57 ++ [(.inr (.inl (2, [])) : RC)] := ⟨_, rfl⟩
  have hf := lt1_n e1 hf
  have nc59 : c59.length = c57.length + 1 := by rw [e1]; simp
  rw [← e1] at hS
  have hz := hz.le (cs' := c59) (by omega)
  have X := X.to c59
  refine lv_dup hx hb dX7_init_29 rfl ?_
  obtain ⟨c60, m61, h1, hf⟩ := bs2 hf
  have nc60 := kX2_init_len h1
  refine am_cN (As := []) X (hml.trans hl.1.symm) hS hz (by omega) (kX2_init_ok (l := l) (E := E) h1) mi_X7_17 ⟨Nat.le_of_ble_eq_true rfl, Nat.le_of_ble_eq_true rfl⟩ ⟨Nat.le_of_ble_eq_true rfl, Nat.le_of_ble_eq_true rfl⟩ rfl rfl (Nat.le_of_ble_eq_true rfl) dX7_init_30 (fun H locs hS hz => ?_)
  have X := X.to c60
  obtain ⟨c62, h1, hf⟩ := bs hf
  have nc62 := stR_len h1
  refine am_stR X hS h1 dX7_init_33 (fun H locs hS => ?_)
  have hz := hz.le (cs' := c62) (by omega)
  have X := X.to c62
  refine lv_iinc (v := 12) (lv' := [(1, .int 12), (0, .ref (eB E + x0))]) hx hb dX7_init_34 hl (k := 0) rfl (by decide) (by decide) rfl (fun ls hl => ?_)
  refine lv_goto (tgt := 15) hx hb dX7_init_37 (by decide) ?_
  refine lv_iload_n hx hb dX7_init_15 rfl (lv_at hl 0 rfl) ?_
  refine lv_bipush (v := 16) hx hb dX7_init_16 (by decide) ?_
  refine lv_icmp_ge (tgt := 40) hx hb dX7_init_18 (by decide) (fun q => absurd q (by decide)) (fun _ => ?_)
  refine lv_aload_n hx hb dX7_init_21 rfl (lv_at hl 1 rfl) ?_
  obtain ⟨g63, h1, hf⟩ := bs hf
  refine am_gr X hS fl_X7_11 rfl (gtR_n h1) dX7_init_22 ?_
  refine lv_iload_n hx hb dX7_init_25 rfl (lv_at hl 0 rfl) ?_
  refine am_nO (ci := 2) (N := 6) (C := RX2) (T := TX2) (ty := tyX2) X hS hz (by omega) rfl inU_X2 tyX2_ok (inBi 350 (by decide +kernel)) (inBi 305 (by decide +kernel)) (inBi 102 (by decide +kernel)) (by decide +kernel) (Nat.le_of_ble_eq_true rfl) (Nat.le_of_ble_eq_true rfl) dX7_init_26 (fun H hS => ?_)
  obtain ⟨c64, e1⟩ : ∃ z, z = c62 ++ [(.inr (.inl (2, [])) : RC)] := ⟨_, rfl⟩
  have hf := lt1_n e1 hf
  have nc64 : c64.length = c62.length + 1 := by rw [e1]; simp
  rw [← e1] at hS
  have hz := hz.le (cs' := c64) (by omega)
  have X := X.to c64
  refine lv_dup hx hb dX7_init_29 rfl ?_
  obtain ⟨c65, m66, h1, hf⟩ := bs2 hf
  have nc65 := kX2_init_len h1
  refine am_cN (As := []) X (hml.trans hl.1.symm) hS hz (by omega) (kX2_init_ok (l := l) (E := E) h1) mi_X7_17 ⟨Nat.le_of_ble_eq_true rfl, Nat.le_of_ble_eq_true rfl⟩ ⟨Nat.le_of_ble_eq_true rfl, Nat.le_of_ble_eq_true rfl⟩ rfl rfl (Nat.le_of_ble_eq_true rfl) dX7_init_30 (fun H locs hS hz => ?_)
  have X := X.to c65
  obtain ⟨c67, h1, hf⟩ := bs hf
  have nc67 := stR_len h1
  refine am_stR X hS h1 dX7_init_33 (fun H locs hS => ?_)
  have hz := hz.le (cs' := c67) (by omega)
  have X := X.to c67
  refine lv_iinc (v := 13) (lv' := [(1, .int 13), (0, .ref (eB E + x0))]) hx hb dX7_init_34 hl (k := 0) rfl (by decide) (by decide) rfl (fun ls hl => ?_)
  refine lv_goto (tgt := 15) hx hb dX7_init_37 (by decide) ?_
  refine lv_iload_n hx hb dX7_init_15 rfl (lv_at hl 0 rfl) ?_
  refine lv_bipush (v := 16) hx hb dX7_init_16 (by decide) ?_
  refine lv_icmp_ge (tgt := 40) hx hb dX7_init_18 (by decide) (fun q => absurd q (by decide)) (fun _ => ?_)
  refine lv_aload_n hx hb dX7_init_21 rfl (lv_at hl 1 rfl) ?_
  obtain ⟨g68, h1, hf⟩ := bs hf
  refine am_gr X hS fl_X7_11 rfl (gtR_n h1) dX7_init_22 ?_
  refine lv_iload_n hx hb dX7_init_25 rfl (lv_at hl 0 rfl) ?_
  refine am_nO (ci := 2) (N := 6) (C := RX2) (T := TX2) (ty := tyX2) X hS hz (by omega) rfl inU_X2 tyX2_ok (inBi 350 (by decide +kernel)) (inBi 305 (by decide +kernel)) (inBi 102 (by decide +kernel)) (by decide +kernel) (Nat.le_of_ble_eq_true rfl) (Nat.le_of_ble_eq_true rfl) dX7_init_26 (fun H hS => ?_)
  obtain ⟨c69, e1⟩ : ∃ z, z = c67 ++ [(.inr (.inl (2, [])) : RC)] := ⟨_, rfl⟩
  have hf := lt1_n e1 hf
  have nc69 : c69.length = c67.length + 1 := by rw [e1]; simp
  rw [← e1] at hS
  have hz := hz.le (cs' := c69) (by omega)
  have X := X.to c69
  refine lv_dup hx hb dX7_init_29 rfl ?_
  obtain ⟨c70, m71, h1, hf⟩ := bs2 hf
  have nc70 := kX2_init_len h1
  refine am_cN (As := []) X (hml.trans hl.1.symm) hS hz (by omega) (kX2_init_ok (l := l) (E := E) h1) mi_X7_17 ⟨Nat.le_of_ble_eq_true rfl, Nat.le_of_ble_eq_true rfl⟩ ⟨Nat.le_of_ble_eq_true rfl, Nat.le_of_ble_eq_true rfl⟩ rfl rfl (Nat.le_of_ble_eq_true rfl) dX7_init_30 (fun H locs hS hz => ?_)
  have X := X.to c70
  obtain ⟨c72, h1, hf⟩ := bs hf
  have nc72 := stR_len h1
  refine am_stR X hS h1 dX7_init_33 (fun H locs hS => ?_)
  have hz := hz.le (cs' := c72) (by omega)
  have X := X.to c72
  refine lv_iinc (v := 14) (lv' := [(1, .int 14), (0, .ref (eB E + x0))]) hx hb dX7_init_34 hl (k := 0) rfl (by decide) (by decide) rfl (fun ls hl => ?_)
  refine lv_goto (tgt := 15) hx hb dX7_init_37 (by decide) ?_
  refine lv_iload_n hx hb dX7_init_15 rfl (lv_at hl 0 rfl) ?_
  refine lv_bipush (v := 16) hx hb dX7_init_16 (by decide) ?_
  refine lv_icmp_ge (tgt := 40) hx hb dX7_init_18 (by decide) (fun q => absurd q (by decide)) (fun _ => ?_)
  refine lv_aload_n hx hb dX7_init_21 rfl (lv_at hl 1 rfl) ?_
  obtain ⟨g73, h1, hf⟩ := bs hf
  refine am_gr X hS fl_X7_11 rfl (gtR_n h1) dX7_init_22 ?_
  refine lv_iload_n hx hb dX7_init_25 rfl (lv_at hl 0 rfl) ?_
  refine am_nO (ci := 2) (N := 6) (C := RX2) (T := TX2) (ty := tyX2) X hS hz (by omega) rfl inU_X2 tyX2_ok (inBi 350 (by decide +kernel)) (inBi 305 (by decide +kernel)) (inBi 102 (by decide +kernel)) (by decide +kernel) (Nat.le_of_ble_eq_true rfl) (Nat.le_of_ble_eq_true rfl) dX7_init_26 (fun H hS => ?_)
  obtain ⟨c74, e1⟩ : ∃ z, z = c72 ++ [(.inr (.inl (2, [])) : RC)] := ⟨_, rfl⟩
  have hf := lt1_n e1 hf
  have nc74 : c74.length = c72.length + 1 := by rw [e1]; simp
  rw [← e1] at hS
  have hz := hz.le (cs' := c74) (by omega)
  have X := X.to c74
  refine lv_dup hx hb dX7_init_29 rfl ?_
  obtain ⟨c75, m76, h1, hf⟩ := bs2 hf
  have nc75 := kX2_init_len h1
  refine am_cN (As := []) X (hml.trans hl.1.symm) hS hz (by omega) (kX2_init_ok (l := l) (E := E) h1) mi_X7_17 ⟨Nat.le_of_ble_eq_true rfl, Nat.le_of_ble_eq_true rfl⟩ ⟨Nat.le_of_ble_eq_true rfl, Nat.le_of_ble_eq_true rfl⟩ rfl rfl (Nat.le_of_ble_eq_true rfl) dX7_init_30 (fun H locs hS hz => ?_)
  have X := X.to c75
  obtain ⟨c77, h1, hf⟩ := bs hf
  have nc77 := stR_len h1
  refine am_stR X hS h1 dX7_init_33 (fun H locs hS => ?_)
  have hz := hz.le (cs' := c77) (by omega)
  have X := X.to c77
  refine lv_iinc (v := 15) (lv' := [(1, .int 15), (0, .ref (eB E + x0))]) hx hb dX7_init_34 hl (k := 0) rfl (by decide) (by decide) rfl (fun ls hl => ?_)
  refine lv_goto (tgt := 15) hx hb dX7_init_37 (by decide) ?_
  refine lv_iload_n hx hb dX7_init_15 rfl (lv_at hl 0 rfl) ?_
  refine lv_bipush (v := 16) hx hb dX7_init_16 (by decide) ?_
  refine lv_icmp_ge (tgt := 40) hx hb dX7_init_18 (by decide) (fun q => absurd q (by decide)) (fun _ => ?_)
  refine lv_aload_n hx hb dX7_init_21 rfl (lv_at hl 1 rfl) ?_
  obtain ⟨g78, h1, hf⟩ := bs hf
  refine am_gr X hS fl_X7_11 rfl (gtR_n h1) dX7_init_22 ?_
  refine lv_iload_n hx hb dX7_init_25 rfl (lv_at hl 0 rfl) ?_
  refine am_nO (ci := 2) (N := 6) (C := RX2) (T := TX2) (ty := tyX2) X hS hz (by omega) rfl inU_X2 tyX2_ok (inBi 350 (by decide +kernel)) (inBi 305 (by decide +kernel)) (inBi 102 (by decide +kernel)) (by decide +kernel) (Nat.le_of_ble_eq_true rfl) (Nat.le_of_ble_eq_true rfl) dX7_init_26 (fun H hS => ?_)
  obtain ⟨c79, e1⟩ : ∃ z, z = c77 ++ [(.inr (.inl (2, [])) : RC)] := ⟨_, rfl⟩
  have hf := lt1_n e1 hf
  have nc79 : c79.length = c77.length + 1 := by rw [e1]; simp
  rw [← e1] at hS
  have hz := hz.le (cs' := c79) (by omega)
  have X := X.to c79
  refine lv_dup hx hb dX7_init_29 rfl ?_
  obtain ⟨c80, m81, h1, hf⟩ := bs2 hf
  have nc80 := kX2_init_len h1
  refine am_cN (As := []) X (hml.trans hl.1.symm) hS hz (by omega) (kX2_init_ok (l := l) (E := E) h1) mi_X7_17 ⟨Nat.le_of_ble_eq_true rfl, Nat.le_of_ble_eq_true rfl⟩ ⟨Nat.le_of_ble_eq_true rfl, Nat.le_of_ble_eq_true rfl⟩ rfl rfl (Nat.le_of_ble_eq_true rfl) dX7_init_30 (fun H locs hS hz => ?_)
  have X := X.to c80
  obtain ⟨c82, h1, hf⟩ := bs hf
  have nc82 := stR_len h1
  refine am_stR X hS h1 dX7_init_33 (fun H locs hS => ?_)
  have hz := hz.le (cs' := c82) (by omega)
  have X := X.to c82
  refine lv_iinc (v := 16) (lv' := [(1, .int 16), (0, .ref (eB E + x0))]) hx hb dX7_init_34 hl (k := 0) rfl (by decide) (by decide) rfl (fun ls hl => ?_)
  refine lv_goto (tgt := 15) hx hb dX7_init_37 (by decide) ?_
  refine lv_iload_n hx hb dX7_init_15 rfl (lv_at hl 0 rfl) ?_
  refine lv_bipush (v := 16) hx hb dX7_init_16 (by decide) ?_
  refine lv_icmp_ge (tgt := 40) hx hb dX7_init_18 (by decide) (fun _ => ?_) (fun q => absurd (by decide) q)
  cases hf
  exact am_rvN X hS hz hr dX7_init_40 hlocks
theorem kX3_init_len {B : Nat} {x0 : Nat} {cs cs' : List RC} {mm mm' : Mem} (hf : kX3_init B x0 cs mm = some (cs', mm')) : cs'.length = cs.length + 104 := by
  unfold kX3_init at hf
  obtain ⟨c1, e1⟩ : ∃ z, z = cs ++ [(.inr (.inl (2, [])) : RC)] := ⟨_, rfl⟩
  have hf := lt1_n e1 hf
  have nc1 : c1.length = cs.length + 1 := by rw [e1]; simp
  obtain ⟨c2, m3, h1, hf⟩ := bs2 hf
  have nc2 := kX2_init_len h1
  obtain ⟨c4, h1, hf⟩ := bs hf
  have nc4 := ptR_len h1
  obtain ⟨c5, e1⟩ : ∃ z, z = c4 ++ [(.inr (.inl (7, [])) : RC)] := ⟨_, rfl⟩
  have hf := lt1_n e1 hf
  have nc5 : c5.length = c4.length + 1 := by rw [e1]; simp
  obtain ⟨c6, m7, h1, hf⟩ := bs2 hf
  have nc6 := kX7_init_len h1
  obtain ⟨c8, h1, hf⟩ := bs hf
  have nc8 := ptR_len h1
  cases hf
  omega
set_option maxHeartbeats 4000000 in
set_option maxRecDepth 100000 in
theorem kX3_init_ok {l : Launch} {E : Ev} {x0 : Nat} {cs cs' : List RC} {mm mm' : Mem} (hf : kX3_init (eB E) x0 cs mm = some (cs', mm')) : CtN l yX3_init cX3_init 1 3 81 104 3078 E [.ref (eB E + x0)] cs mm cs' mm' := by
  refine Met.ofW (cc := cX3_init) (maxL := 1) (ret := none) (by decide) rfl ?_
  intro p e s m args below meth c s₁ B hml hv
  obtain ⟨rfl, X, hS, hr, hlocks, hin, hz, hsz⟩ := am_inN B hv rfl
  refine am_entry (Nat.le_of_ble_eq_true rfl) (fun ls hl => ?_)
  have hl : lv_has ls 1 [(0, .ref (eB E + x0))] := hl
  have hx := X.1
  have hb := X.2.1
  unfold kX3_init at hf
  refine lv_aload_n hx hb dX3_init_0 rfl (lv_at hl 0 rfl) ?_
  refine am_obj X (hml.trans hl.1.symm) (inBi 367 (by decide +kernel)) (inBi 127 (by decide +kernel)) (inB (List.mem_of_getElem? (i := 128) rfl) rfl) dX3_init_1 (Nat.le_of_ble_eq_true rfl) (Nat.le_of_ble_eq_true rfl) ?_
  refine lv_aload_n hx hb dX3_init_4 rfl (lv_at hl 0 rfl) ?_
  refine am_nO (ci := 2) (N := 6) (C := RX2) (T := TX2) (ty := tyX2) X hS hz (by omega) rfl inU_X2 tyX2_ok (inBi 368 (by decide +kernel)) (inBi 305 (by decide +kernel)) (inBi 102 (by decide +kernel)) (by decide +kernel) (Nat.le_of_ble_eq_true rfl) (Nat.le_of_ble_eq_true rfl) dX3_init_5 (fun H hS => ?_)
  obtain ⟨c1, e1⟩ : ∃ z, z = cs ++ [(.inr (.inl (2, [])) : RC)] := ⟨_, rfl⟩
  have hf := lt1_n e1 hf
  have nc1 : c1.length = cs.length + 1 := by rw [e1]; simp
  rw [← e1] at hS
  have hz := hz.le (cs' := c1) (by omega)
  have X := X.to c1
  refine lv_dup hx hb dX3_init_8 rfl ?_
  obtain ⟨c2, m3, h1, hf⟩ := bs2 hf
  have nc2 := kX2_init_len h1
  refine am_cN (As := []) X (hml.trans hl.1.symm) hS hz (by omega) (kX2_init_ok (l := l) (E := E) h1) mi_X3_9 ⟨Nat.le_of_ble_eq_true rfl, Nat.le_of_ble_eq_true rfl⟩ ⟨Nat.le_of_ble_eq_true rfl, Nat.le_of_ble_eq_true rfl⟩ rfl rfl (Nat.le_of_ble_eq_true rfl) dX3_init_9 (fun H locs hS hz => ?_)
  have X := X.to c2
  obtain ⟨c4, h1, hf⟩ := bs hf
  have nc4 := ptR_len h1
  refine am_ptR X hS fg_X3_10 rfl hin h1 dX3_init_12 (fun H locs hS => ?_)
  have hz := hz.le (cs' := c4) (by omega)
  have X := X.to c4
  refine lv_aload_n hx hb dX3_init_15 rfl (lv_at hl 0 rfl) ?_
  refine am_nO (ci := 7) (N := 2) (C := RX7) (T := TX7) (ty := tyX7) X hS hz (by omega) rfl inU_X7 tyX7_ok (inBi 370 (by decide +kernel)) (inBi 345 (by decide +kernel)) (inBi 103 (by decide +kernel)) (by decide +kernel) (Nat.le_of_ble_eq_true rfl) (Nat.le_of_ble_eq_true rfl) dX3_init_16 (fun H hS => ?_)
  obtain ⟨c5, e1⟩ : ∃ z, z = c4 ++ [(.inr (.inl (7, [])) : RC)] := ⟨_, rfl⟩
  have hf := lt1_n e1 hf
  have nc5 : c5.length = c4.length + 1 := by rw [e1]; simp
  rw [← e1] at hS
  have hz := hz.le (cs' := c5) (by omega)
  have X := X.to c5
  refine lv_dup hx hb dX3_init_19 rfl ?_
  obtain ⟨c6, m7, h1, hf⟩ := bs2 hf
  have nc6 := kX7_init_len h1
  refine am_cN (As := []) X (hml.trans hl.1.symm) hS hz (by omega) (kX7_init_ok (l := l) (E := E) h1) mi_X3_18 ⟨Nat.le_of_ble_eq_true rfl, Nat.le_of_ble_eq_true rfl⟩ ⟨Nat.le_of_ble_eq_true rfl, Nat.le_of_ble_eq_true rfl⟩ rfl rfl (Nat.le_of_ble_eq_true rfl) dX3_init_20 (fun H locs hS hz => ?_)
  have X := X.to c6
  obtain ⟨c8, h1, hf⟩ := bs hf
  have nc8 := ptR_len h1
  refine am_ptR X hS fg_X3_19 rfl hin h1 dX3_init_23 (fun H locs hS => ?_)
  have hz := hz.le (cs' := c8) (by omega)
  have X := X.to c8
  cases hf
  exact am_rvN X hS hz hr dX3_init_26 hlocks
theorem kX10_init_len {B : Nat} {x0 : Nat} {x1 : Nat} {x2 : Nat} {x3 : Nat} {cs cs' : List RC} {mm mm' : Mem} (hf : kX10_init B x0 x1 x2 x3 cs mm = some (cs', mm')) : cs'.length = cs.length + 5 := by
  unfold kX10_init at hf
  obtain ⟨c1, h1, hf⟩ := bs hf
  have nc1 := ptR_len h1
  obtain ⟨c2, h1, hf⟩ := bs hf
  have nc2 := ptR_len h1
  obtain ⟨c3, h1, hf⟩ := bs hf
  have nc3 := ptR_len h1
  obtain ⟨c4, e1⟩ : ∃ z, z = c3 ++ [(.inl 150 : RC)] := ⟨_, rfl⟩
  have hf := lt1_n e1 hf
  have nc4 : c4.length = c3.length + 1 := by rw [e1]; simp
  obtain ⟨c5, h1, hf⟩ := bs hf
  have nc5 := ptR_len h1
  obtain ⟨c6, e1⟩ : ∃ z, z = c5 ++ [(.inl 150 : RC)] := ⟨_, rfl⟩
  have hf := lt1_n e1 hf
  have nc6 : c6.length = c5.length + 1 := by rw [e1]; simp
  obtain ⟨c7, h1, hf⟩ := bs hf
  have nc7 := ptR_len h1
  obtain ⟨c8, e1⟩ : ∃ z, z = c7 ++ [(.inl 150 : RC)] := ⟨_, rfl⟩
  have hf := lt1_n e1 hf
  have nc8 : c8.length = c7.length + 1 := by rw [e1]; simp
  obtain ⟨c9, h1, hf⟩ := bs hf
  have nc9 := ptR_len h1
  obtain ⟨c10, e1⟩ : ∃ z, z = c9 ++ [(.inl 150 : RC)] := ⟨_, rfl⟩
  have hf := lt1_n e1 hf
  have nc10 : c10.length = c9.length + 1 := by rw [e1]; simp
  obtain ⟨c11, h1, hf⟩ := bs hf
  have nc11 := ptR_len h1
  obtain ⟨c12, e1⟩ : ∃ z, z = c11 ++ [(.inl 150 : RC)] := ⟨_, rfl⟩
  have hf := lt1_n e1 hf
  have nc12 : c12.length = c11.length + 1 := by rw [e1]; simp
  obtain ⟨c13, h1, hf⟩ := bs hf
  have nc13 := ptR_len h1
  cases hf
  omega
set_option maxHeartbeats 4000000 in
set_option maxRecDepth 100000 in
theorem kX10_init_ok {l : Launch} {E : Ev} {x0 : Nat} {x1 : Nat} {x2 : Nat} {x3 : Nat} {cs cs' : List RC} {mm mm' : Mem} (hf : kX10_init (eB E) x0 x1 x2 x3 cs mm = some (cs', mm')) : CtN l yX10_init cX10_init 4 1 40 5 750 E [.ref (eB E + x0), .ref (eB E + x1), .ref (eB E + x2), .ref (eB E + x3)] cs mm cs' mm' := by
  refine Met.ofW (cc := cX10_init) (maxL := 4) (ret := none) (by decide) rfl ?_
  intro p e s m args below meth c s₁ B hml hv
  obtain ⟨rfl, X, hS, hr, hlocks, hin, hz, hsz⟩ := am_inN B hv rfl
  refine am_entry (Nat.le_of_ble_eq_true rfl) (fun ls hl => ?_)
  have hl : lv_has ls 4 [(0, .ref (eB E + x0)), (1, .ref (eB E + x1)), (2, .ref (eB E + x2)), (3, .ref (eB E + x3))] := hl
  have hx := X.1
  have hb := X.2.1
  unfold kX10_init at hf
  refine lv_aload_n hx hb dX10_init_0 rfl (lv_at hl 0 rfl) ?_
  refine am_obj X (hml.trans hl.1.symm) (inBi 263 (by decide +kernel)) (inBi 127 (by decide +kernel)) (inB (List.mem_of_getElem? (i := 128) rfl) rfl) dX10_init_1 (Nat.le_of_ble_eq_true rfl) (Nat.le_of_ble_eq_true rfl) ?_
  refine lv_aload_n hx hb dX10_init_4 rfl (lv_at hl 0 rfl) ?_
  refine lv_aload_n hx hb dX10_init_5 rfl (lv_at hl 1 rfl) ?_
  obtain ⟨c1, h1, hf⟩ := bs hf
  have nc1 := ptR_len h1
  refine am_ptR X hS fg_X10_9 rfl hin h1 dX10_init_6 (fun H locs hS => ?_)
  have hz := hz.le (cs' := c1) (by omega)
  have X := X.to c1
  refine lv_aload_n hx hb dX10_init_9 rfl (lv_at hl 0 rfl) ?_
  refine lv_aload_n hx hb dX10_init_10 rfl (lv_at hl 2 rfl) ?_
  obtain ⟨c2, h1, hf⟩ := bs hf
  have nc2 := ptR_len h1
  refine am_ptR X hS fg_X10_15 rfl hin h1 dX10_init_11 (fun H locs hS => ?_)
  have hz := hz.le (cs' := c2) (by omega)
  have X := X.to c2
  refine lv_aload_n hx hb dX10_init_14 rfl (lv_at hl 0 rfl) ?_
  refine lv_aload_n hx hb dX10_init_15 rfl (lv_at hl 3 rfl) ?_
  obtain ⟨c3, h1, hf⟩ := bs hf
  have nc3 := ptR_len h1
  refine am_ptR X hS fg_X10_19 rfl hin h1 dX10_init_16 (fun H locs hS => ?_)
  have hz := hz.le (cs' := c3) (by omega)
  have X := X.to c3
  refine lv_aload_n hx hb dX10_init_19 rfl (lv_at hl 0 rfl) ?_
  refine lv_sipush (v := 150) hx hb dX10_init_20 (by decide) ?_
  refine am_nI (N' := 150) X hS hz (by omega) (inBi 157 (by decide +kernel)) (by decide) (by decide) (Nat.le_of_ble_eq_true rfl) (Nat.le_of_ble_eq_true rfl) (Nat.le_of_ble_eq_true rfl) dX10_init_23 (fun H hS => ?_)
  obtain ⟨c4, e1⟩ : ∃ z, z = c3 ++ [(.inl 150 : RC)] := ⟨_, rfl⟩
  have hf := lt1_n e1 hf
  have nc4 : c4.length = c3.length + 1 := by rw [e1]; simp
  rw [← e1] at hS
  have hz := hz.le (cs' := c4) (by omega)
  have X := X.to c4
  obtain ⟨c5, h1, hf⟩ := bs hf
  have nc5 := ptR_len h1
  refine am_ptR X hS fg_X10_23 rfl hin h1 dX10_init_25 (fun H locs hS => ?_)
  have hz := hz.le (cs' := c5) (by omega)
  have X := X.to c5
  refine lv_aload_n hx hb dX10_init_28 rfl (lv_at hl 0 rfl) ?_
  refine lv_sipush (v := 150) hx hb dX10_init_29 (by decide) ?_
  refine am_nI (N' := 150) X hS hz (by omega) (inBi 157 (by decide +kernel)) (by decide) (by decide) (Nat.le_of_ble_eq_true rfl) (Nat.le_of_ble_eq_true rfl) (Nat.le_of_ble_eq_true rfl) dX10_init_32 (fun H hS => ?_)
  obtain ⟨c6, e1⟩ : ∃ z, z = c5 ++ [(.inl 150 : RC)] := ⟨_, rfl⟩
  have hf := lt1_n e1 hf
  have nc6 : c6.length = c5.length + 1 := by rw [e1]; simp
  rw [← e1] at hS
  have hz := hz.le (cs' := c6) (by omega)
  have X := X.to c6
  obtain ⟨c7, h1, hf⟩ := bs hf
  have nc7 := ptR_len h1
  refine am_ptR X hS fg_X10_27 rfl hin h1 dX10_init_34 (fun H locs hS => ?_)
  have hz := hz.le (cs' := c7) (by omega)
  have X := X.to c7
  refine lv_aload_n hx hb dX10_init_37 rfl (lv_at hl 0 rfl) ?_
  refine lv_sipush (v := 150) hx hb dX10_init_38 (by decide) ?_
  refine am_nI (N' := 150) X hS hz (by omega) (inBi 157 (by decide +kernel)) (by decide) (by decide) (Nat.le_of_ble_eq_true rfl) (Nat.le_of_ble_eq_true rfl) (Nat.le_of_ble_eq_true rfl) dX10_init_41 (fun H hS => ?_)
  obtain ⟨c8, e1⟩ : ∃ z, z = c7 ++ [(.inl 150 : RC)] := ⟨_, rfl⟩
  have hf := lt1_n e1 hf
  have nc8 : c8.length = c7.length + 1 := by rw [e1]; simp
  rw [← e1] at hS
  have hz := hz.le (cs' := c8) (by omega)
  have X := X.to c8
  obtain ⟨c9, h1, hf⟩ := bs hf
  have nc9 := ptR_len h1
  refine am_ptR X hS fg_X10_30 rfl hin h1 dX10_init_43 (fun H locs hS => ?_)
  have hz := hz.le (cs' := c9) (by omega)
  have X := X.to c9
  refine lv_aload_n hx hb dX10_init_46 rfl (lv_at hl 0 rfl) ?_
  refine lv_sipush (v := 150) hx hb dX10_init_47 (by decide) ?_
  refine am_nI (N' := 150) X hS hz (by omega) (inBi 157 (by decide +kernel)) (by decide) (by decide) (Nat.le_of_ble_eq_true rfl) (Nat.le_of_ble_eq_true rfl) (Nat.le_of_ble_eq_true rfl) dX10_init_50 (fun H hS => ?_)
  obtain ⟨c10, e1⟩ : ∃ z, z = c9 ++ [(.inl 150 : RC)] := ⟨_, rfl⟩
  have hf := lt1_n e1 hf
  have nc10 : c10.length = c9.length + 1 := by rw [e1]; simp
  rw [← e1] at hS
  have hz := hz.le (cs' := c10) (by omega)
  have X := X.to c10
  obtain ⟨c11, h1, hf⟩ := bs hf
  have nc11 := ptR_len h1
  refine am_ptR X hS fg_X10_33 rfl hin h1 dX10_init_52 (fun H locs hS => ?_)
  have hz := hz.le (cs' := c11) (by omega)
  have X := X.to c11
  refine lv_aload_n hx hb dX10_init_55 rfl (lv_at hl 0 rfl) ?_
  refine lv_sipush (v := 150) hx hb dX10_init_56 (by decide) ?_
  refine am_nI (N' := 150) X hS hz (by omega) (inBi 157 (by decide +kernel)) (by decide) (by decide) (Nat.le_of_ble_eq_true rfl) (Nat.le_of_ble_eq_true rfl) (Nat.le_of_ble_eq_true rfl) dX10_init_59 (fun H hS => ?_)
  obtain ⟨c12, e1⟩ : ∃ z, z = c11 ++ [(.inl 150 : RC)] := ⟨_, rfl⟩
  have hf := lt1_n e1 hf
  have nc12 : c12.length = c11.length + 1 := by rw [e1]; simp
  rw [← e1] at hS
  have hz := hz.le (cs' := c12) (by omega)
  have X := X.to c12
  obtain ⟨c13, h1, hf⟩ := bs hf
  have nc13 := ptR_len h1
  refine am_ptR X hS fg_X10_36 rfl hin h1 dX10_init_61 (fun H locs hS => ?_)
  have hz := hz.le (cs' := c13) (by omega)
  have X := X.to c13
  cases hf
  exact am_rvN X hS hz hr dX10_init_64 hlocks
theorem kX6_init_len {B : Nat} {x0 : Nat} {x1 : Nat} {x2 : Nat} {x3 : Nat} {cs cs' : List RC} {mm mm' : Mem} (hf : kX6_init B x0 x1 x2 x3 cs mm = some (cs', mm')) : cs'.length = cs.length + 56 := by
  unfold kX6_init at hf
  obtain ⟨c1, h1, hf⟩ := bs hf
  have nc1 := ptR_len h1
  obtain ⟨c2, h1, hf⟩ := bs hf
  have nc2 := ptR_len h1
  obtain ⟨c3, h1, hf⟩ := bs hf
  have nc3 := ptR_len h1
  obtain ⟨c4, e1⟩ : ∃ z, z = c3 ++ [(.inr (.inl (2, [])) : RC)] := ⟨_, rfl⟩
  have hf := lt1_n e1 hf
  have nc4 : c4.length = c3.length + 1 := by rw [e1]; simp
  obtain ⟨c5, m6, h1, hf⟩ := bs2 hf
  have nc5 := kX2_init_len h1
  obtain ⟨c7, h1, hf⟩ := bs hf
  have nc7 := ptR_len h1
  obtain ⟨c8, e1⟩ : ∃ z, z = nwM c7 48 99 := ⟨_, rfl⟩
  have hf := lt1_n e1 hf
  have nc8 : c8.length = c7.length + 49 := by rw [e1, nwM_len]
  obtain ⟨c9, h1, hf⟩ := bs hf
  have nc9 := ptR_len h1
  obtain ⟨c10, e1⟩ : ∃ z, z = c9 ++ [(.inl 1681 : RC)] := ⟨_, rfl⟩
  have hf := lt1_n e1 hf
  have nc10 : c10.length = c9.length + 1 := by rw [e1]; simp
  obtain ⟨c11, h1, hf⟩ := bs hf
  have nc11 := ptR_len h1
  cases hf
  omega
set_option maxHeartbeats 4000000 in
set_option maxRecDepth 100000 in
theorem kX6_init_ok {l : Launch} {E : Ev} {x0 : Nat} {x1 : Nat} {x2 : Nat} {x3 : Nat} {cs cs' : List RC} {mm mm' : Mem} (hf : kX6_init (eB E) x0 x1 x2 x3 cs mm = some (cs', mm')) : CtN l yX6_init cX6_init 4 2 60 56 6661 E [.ref (eB E + x0), .ref (eB E + x1), .ref (eB E + x2), .ref (eB E + x3)] cs mm cs' mm' := by
  refine Met.ofW (cc := cX6_init) (maxL := 4) (ret := none) (by decide) rfl ?_
  intro p e s m args below meth c s₁ B hml hv
  obtain ⟨rfl, X, hS, hr, hlocks, hin, hz, hsz⟩ := am_inN B hv rfl
  refine am_entry (Nat.le_of_ble_eq_true rfl) (fun ls hl => ?_)
  have hl : lv_has ls 4 [(0, .ref (eB E + x0)), (1, .ref (eB E + x1)), (2, .ref (eB E + x2)), (3, .ref (eB E + x3))] := hl
  have hx := X.1
  have hb := X.2.1
  unfold kX6_init at hf
  refine lv_aload_n hx hb dX6_init_0 rfl (lv_at hl 0 rfl) ?_
  refine am_obj X (hml.trans hl.1.symm) (inBi 386 (by decide +kernel)) (inBi 127 (by decide +kernel)) (inB (List.mem_of_getElem? (i := 128) rfl) rfl) dX6_init_1 (Nat.le_of_ble_eq_true rfl) (Nat.le_of_ble_eq_true rfl) ?_
  refine lv_aload_n hx hb dX6_init_4 rfl (lv_at hl 0 rfl) ?_
  refine lv_aload_n hx hb dX6_init_5 rfl (lv_at hl 1 rfl) ?_
  obtain ⟨c1, h1, hf⟩ := bs hf
  have nc1 := ptR_len h1
  refine am_ptR X hS fg_X6_9 rfl hin h1 dX6_init_6 (fun H locs hS => ?_)
  have hz := hz.le (cs' := c1) (by omega)
  have X := X.to c1
  refine lv_aload_n hx hb dX6_init_9 rfl (lv_at hl 0 rfl) ?_
  refine lv_aload_n hx hb dX6_init_10 rfl (lv_at hl 2 rfl) ?_
  obtain ⟨c2, h1, hf⟩ := bs hf
  have nc2 := ptR_len h1
  refine am_ptR X hS fg_X6_15 rfl hin h1 dX6_init_11 (fun H locs hS => ?_)
  have hz := hz.le (cs' := c2) (by omega)
  have X := X.to c2
  refine lv_aload_n hx hb dX6_init_14 rfl (lv_at hl 0 rfl) ?_
  refine lv_aload_n hx hb dX6_init_15 rfl (lv_at hl 3 rfl) ?_
  obtain ⟨c3, h1, hf⟩ := bs hf
  have nc3 := ptR_len h1
  refine am_ptR X hS fg_X6_19 rfl hin h1 dX6_init_16 (fun H locs hS => ?_)
  have hz := hz.le (cs' := c3) (by omega)
  have X := X.to c3
  refine lv_aload_n hx hb dX6_init_19 rfl (lv_at hl 0 rfl) ?_
  refine am_nO (ci := 2) (N := 6) (C := RX2) (T := TX2) (ty := tyX2) X hS hz (by omega) rfl inU_X2 tyX2_ok (inBi 387 (by decide +kernel)) (inBi 305 (by decide +kernel)) (inBi 102 (by decide +kernel)) (by decide +kernel) (Nat.le_of_ble_eq_true rfl) (Nat.le_of_ble_eq_true rfl) dX6_init_20 (fun H hS => ?_)
  obtain ⟨c4, e1⟩ : ∃ z, z = c3 ++ [(.inr (.inl (2, [])) : RC)] := ⟨_, rfl⟩
  have hf := lt1_n e1 hf
  have nc4 : c4.length = c3.length + 1 := by rw [e1]; simp
  rw [← e1] at hS
  have hz := hz.le (cs' := c4) (by omega)
  have X := X.to c4
  refine lv_dup hx hb dX6_init_23 rfl ?_
  obtain ⟨c5, m6, h1, hf⟩ := bs2 hf
  have nc5 := kX2_init_len h1
  refine am_cN (As := []) X (hml.trans hl.1.symm) hS hz (by omega) (kX2_init_ok (l := l) (E := E) h1) mi_X6_25 ⟨Nat.le_of_ble_eq_true rfl, Nat.le_of_ble_eq_true rfl⟩ ⟨Nat.le_of_ble_eq_true rfl, Nat.le_of_ble_eq_true rfl⟩ rfl rfl (Nat.le_of_ble_eq_true rfl) dX6_init_24 (fun H locs hS hz => ?_)
  have X := X.to c5
  obtain ⟨c7, h1, hf⟩ := bs hf
  have nc7 := ptR_len h1
  refine am_ptR X hS fg_X6_26 rfl hin h1 dX6_init_27 (fun H locs hS => ?_)
  have hz := hz.le (cs' := c7) (by omega)
  have X := X.to c7
  refine lv_aload_n hx hb dX6_init_30 rfl (lv_at hl 0 rfl) ?_
  refine lv_bipush (v := 48) hx hb dX6_init_31 (by decide) ?_
  refine lv_bipush (v := 99) hx hb dX6_init_33 (by decide) ?_
  refine am_mul (N' := 48) (K' := 99) X hS hz (by omega) (inBi 389 (by decide +kernel)) (inNi 390 (by decide +kernel)) (inBi 157 (by decide +kernel)) (by decide) (by decide) (by decide) (by decide) (Nat.le_of_ble_eq_true rfl) (Nat.le_of_ble_eq_true rfl) (Nat.le_of_ble_eq_true rfl) (Nat.le_of_ble_eq_true rfl) (Nat.le_of_ble_eq_true rfl) dX6_init_35 (fun H hS => ?_)
  obtain ⟨c8, e1⟩ : ∃ z, z = nwM c7 48 99 := ⟨_, rfl⟩
  have hf := lt1_n e1 hf
  have nc8 : c8.length = c7.length + 49 := by rw [e1, nwM_len]
  rw [← e1] at hS
  have hz := hz.le (cs' := c8) (by omega)
  have X := X.to c8
  obtain ⟨c9, h1, hf⟩ := bs hf
  have nc9 := ptR_len h1
  refine am_ptR X hS fg_X6_32 rfl hin h1 dX6_init_39 (fun H locs hS => ?_)
  have hz := hz.le (cs' := c9) (by omega)
  have X := X.to c9
  refine lv_aload_n hx hb dX6_init_42 rfl (lv_at hl 0 rfl) ?_
  refine lv_sipush (v := 1681) hx hb dX6_init_43 (by decide) ?_
  refine am_nI (N' := 1681) X hS hz (by omega) (inBi 157 (by decide +kernel)) (by decide) (by decide) (Nat.le_of_ble_eq_true rfl) (Nat.le_of_ble_eq_true rfl) (Nat.le_of_ble_eq_true rfl) dX6_init_46 (fun H hS => ?_)
  obtain ⟨c10, e1⟩ : ∃ z, z = c9 ++ [(.inl 1681 : RC)] := ⟨_, rfl⟩
  have hf := lt1_n e1 hf
  have nc10 : c10.length = c9.length + 1 := by rw [e1]; simp
  rw [← e1] at hS
  have hz := hz.le (cs' := c10) (by omega)
  have X := X.to c10
  obtain ⟨c11, h1, hf⟩ := bs hf
  have nc11 := ptR_len h1
  refine am_ptR X hS fg_X6_35 rfl hin h1 dX6_init_48 (fun H locs hS => ?_)
  have hz := hz.le (cs' := c11) (by omega)
  have X := X.to c11
  cases hf
  exact am_rvN X hS hz hr dX6_init_51 hlocks
theorem kX9_init_len {B : Nat} {x0 : Nat} {x1 : Nat} {x2 : Nat} {cs cs' : List RC} {mm mm' : Mem} (hf : kX9_init B x0 x1 x2 cs mm = some (cs', mm')) : cs'.length = cs.length + 6 := by
  unfold kX9_init at hf
  obtain ⟨c1, h1, hf⟩ := bs hf
  have nc1 := ptR_len h1
  obtain ⟨c2, h1, hf⟩ := bs hf
  have nc2 := ptR_len h1
  obtain ⟨c3, e1⟩ : ∃ z, z = c2 ++ [(.inr (.inl (2, [])) : RC)] := ⟨_, rfl⟩
  have hf := lt1_n e1 hf
  have nc3 : c3.length = c2.length + 1 := by rw [e1]; simp
  obtain ⟨c4, m5, h1, hf⟩ := bs2 hf
  have nc4 := kX2_init_len h1
  obtain ⟨c6, h1, hf⟩ := bs hf
  have nc6 := ptR_len h1
  cases hf
  omega
set_option maxHeartbeats 4000000 in
set_option maxRecDepth 100000 in
theorem kX9_init_ok {l : Launch} {E : Ev} {x0 : Nat} {x1 : Nat} {x2 : Nat} {cs cs' : List RC} {mm mm' : Mem} (hf : kX9_init (eB E) x0 x1 x2 cs mm = some (cs', mm')) : CtN l yX9_init cX9_init 3 2 60 6 180 E [.ref (eB E + x0), .ref (eB E + x1), .ref (eB E + x2)] cs mm cs' mm' := by
  refine Met.ofW (cc := cX9_init) (maxL := 3) (ret := none) (by decide) rfl ?_
  intro p e s m args below meth c s₁ B hml hv
  obtain ⟨rfl, X, hS, hr, hlocks, hin, hz, hsz⟩ := am_inN B hv rfl
  refine am_entry (Nat.le_of_ble_eq_true rfl) (fun ls hl => ?_)
  have hl : lv_has ls 3 [(0, .ref (eB E + x0)), (1, .ref (eB E + x1)), (2, .ref (eB E + x2))] := hl
  have hx := X.1
  have hb := X.2.1
  unfold kX9_init at hf
  refine lv_aload_n hx hb dX9_init_0 rfl (lv_at hl 0 rfl) ?_
  refine am_obj X (hml.trans hl.1.symm) (inBi 423 (by decide +kernel)) (inBi 127 (by decide +kernel)) (inB (List.mem_of_getElem? (i := 128) rfl) rfl) dX9_init_1 (Nat.le_of_ble_eq_true rfl) (Nat.le_of_ble_eq_true rfl) ?_
  refine lv_aload_n hx hb dX9_init_4 rfl (lv_at hl 0 rfl) ?_
  refine lv_aload_n hx hb dX9_init_5 rfl (lv_at hl 1 rfl) ?_
  obtain ⟨c1, h1, hf⟩ := bs hf
  have nc1 := ptR_len h1
  refine am_ptR X hS fg_X9_9 rfl hin h1 dX9_init_6 (fun H locs hS => ?_)
  have hz := hz.le (cs' := c1) (by omega)
  have X := X.to c1
  refine lv_aload_n hx hb dX9_init_9 rfl (lv_at hl 0 rfl) ?_
  refine lv_aload_n hx hb dX9_init_10 rfl (lv_at hl 2 rfl) ?_
  obtain ⟨c2, h1, hf⟩ := bs hf
  have nc2 := ptR_len h1
  refine am_ptR X hS fg_X9_15 rfl hin h1 dX9_init_11 (fun H locs hS => ?_)
  have hz := hz.le (cs' := c2) (by omega)
  have X := X.to c2
  refine lv_aload_n hx hb dX9_init_14 rfl (lv_at hl 0 rfl) ?_
  refine am_nO (ci := 2) (N := 6) (C := RX2) (T := TX2) (ty := tyX2) X hS hz (by omega) rfl inU_X2 tyX2_ok (inBi 424 (by decide +kernel)) (inBi 305 (by decide +kernel)) (inBi 102 (by decide +kernel)) (by decide +kernel) (Nat.le_of_ble_eq_true rfl) (Nat.le_of_ble_eq_true rfl) dX9_init_15 (fun H hS => ?_)
  obtain ⟨c3, e1⟩ : ∃ z, z = c2 ++ [(.inr (.inl (2, [])) : RC)] := ⟨_, rfl⟩
  have hf := lt1_n e1 hf
  have nc3 : c3.length = c2.length + 1 := by rw [e1]; simp
  rw [← e1] at hS
  have hz := hz.le (cs' := c3) (by omega)
  have X := X.to c3
  refine lv_dup hx hb dX9_init_18 rfl ?_
  obtain ⟨c4, m5, h1, hf⟩ := bs2 hf
  have nc4 := kX2_init_len h1
  refine am_cN (As := []) X (hml.trans hl.1.symm) hS hz (by omega) (kX2_init_ok (l := l) (E := E) h1) mi_X9_21 ⟨Nat.le_of_ble_eq_true rfl, Nat.le_of_ble_eq_true rfl⟩ ⟨Nat.le_of_ble_eq_true rfl, Nat.le_of_ble_eq_true rfl⟩ rfl rfl (Nat.le_of_ble_eq_true rfl) dX9_init_19 (fun H locs hS hz => ?_)
  have X := X.to c4
  obtain ⟨c6, h1, hf⟩ := bs hf
  have nc6 := ptR_len h1
  refine am_ptR X hS fg_X9_22 rfl hin h1 dX9_init_22 (fun H locs hS => ?_)
  have hz := hz.le (cs' := c6) (by omega)
  have X := X.to c6
  cases hf
  exact am_rvN X hS hz hr dX9_init_25 hlocks
theorem kX11_init_len {B : Nat} {x0 : Nat} {cs cs' : List RC} {mm mm' : Mem} (hf : kX11_init B x0 cs mm = some (cs', mm')) : cs'.length = cs.length + 516 := by
  unfold kX11_init at hf
  obtain ⟨c1, e1⟩ : ∃ z, z = cs ++ [(.inr (.inl (8, [])) : RC)] := ⟨_, rfl⟩
  have hf := lt1_n e1 hf
  have nc1 : c1.length = cs.length + 1 := by rw [e1]; simp
  obtain ⟨c2, m3, h1, hf⟩ := bs2 hf
  have nc2 := kX8_init_len h1
  obtain ⟨c4, h1, hf⟩ := bs hf
  have nc4 := ptR_len h1
  obtain ⟨c5, e1⟩ : ∃ z, z = c4 ++ [(.inr (.inl (1, [])) : RC)] := ⟨_, rfl⟩
  have hf := lt1_n e1 hf
  have nc5 : c5.length = c4.length + 1 := by rw [e1]; simp
  obtain ⟨c6, m7, h1, hf⟩ := bs2 hf
  have nc6 := kX1_init_len h1
  obtain ⟨c8, h1, hf⟩ := bs hf
  have nc8 := ptR_len h1
  obtain ⟨c9, e1⟩ : ∃ z, z = c8 ++ [(.inr (.inl (1, [])) : RC)] := ⟨_, rfl⟩
  have hf := lt1_n e1 hf
  have nc9 : c9.length = c8.length + 1 := by rw [e1]; simp
  obtain ⟨c10, m11, h1, hf⟩ := bs2 hf
  have nc10 := kX1_init_len h1
  obtain ⟨c12, h1, hf⟩ := bs hf
  have nc12 := ptR_len h1
  obtain ⟨c13, e1⟩ : ∃ z, z = c12 ++ [(.inr (.inl (4, [])) : RC)] := ⟨_, rfl⟩
  have hf := lt1_n e1 hf
  have nc13 : c13.length = c12.length + 1 := by rw [e1]; simp
  obtain ⟨c14, m15, h1, hf⟩ := bs2 hf
  have nc14 := kX4_init_len h1
  obtain ⟨c16, h1, hf⟩ := bs hf
  have nc16 := ptR_len h1
  obtain ⟨c17, e1⟩ : ∃ z, z = c16 ++ [(.inr (.inl (4, [])) : RC)] := ⟨_, rfl⟩
  have hf := lt1_n e1 hf
  have nc17 : c17.length = c16.length + 1 := by rw [e1]; simp
  obtain ⟨c18, m19, h1, hf⟩ := bs2 hf
  have nc18 := kX4_init_len h1
  obtain ⟨c20, h1, hf⟩ := bs hf
  have nc20 := ptR_len h1
  obtain ⟨c21, e1⟩ : ∃ z, z = c20 ++ [(.inr (.inl (0, [])) : RC)] := ⟨_, rfl⟩
  have hf := lt1_n e1 hf
  have nc21 : c21.length = c20.length + 1 := by rw [e1]; simp
  obtain ⟨c22, m23, h1, hf⟩ := bs2 hf
  have nc22 := kX0_init_len h1
  obtain ⟨c24, h1, hf⟩ := bs hf
  have nc24 := ptR_len h1
  obtain ⟨c25, e1⟩ : ∃ z, z = c24 ++ [(.inr (.inl (0, [])) : RC)] := ⟨_, rfl⟩
  have hf := lt1_n e1 hf
  have nc25 : c25.length = c24.length + 1 := by rw [e1]; simp
  obtain ⟨c26, m27, h1, hf⟩ := bs2 hf
  have nc26 := kX0_init_len h1
  obtain ⟨c28, h1, hf⟩ := bs hf
  have nc28 := ptR_len h1
  obtain ⟨c29, e1⟩ : ∃ z, z = c28 ++ [(.inr (.inl (5, [])) : RC)] := ⟨_, rfl⟩
  have hf := lt1_n e1 hf
  have nc29 : c29.length = c28.length + 1 := by rw [e1]; simp
  obtain ⟨g30, h1, hf⟩ := bs hf
  obtain ⟨g31, h1, hf⟩ := bs hf
  obtain ⟨c32, m33, h1, hf⟩ := bs2 hf
  have nc32 := kX5_init_len h1
  obtain ⟨c34, h1, hf⟩ := bs hf
  have nc34 := ptR_len h1
  obtain ⟨c35, e1⟩ : ∃ z, z = c34 ++ [(.inr (.inl (10, [])) : RC)] := ⟨_, rfl⟩
  have hf := lt1_n e1 hf
  have nc35 : c35.length = c34.length + 1 := by rw [e1]; simp
  obtain ⟨g36, h1, hf⟩ := bs hf
  obtain ⟨g37, h1, hf⟩ := bs hf
  obtain ⟨g38, h1, hf⟩ := bs hf
  obtain ⟨c39, m40, h1, hf⟩ := bs2 hf
  have nc39 := kX10_init_len h1
  obtain ⟨c41, h1, hf⟩ := bs hf
  have nc41 := ptR_len h1
  obtain ⟨c42, e1⟩ : ∃ z, z = c41 ++ [(.inr (.inl (2, [])) : RC)] := ⟨_, rfl⟩
  have hf := lt1_n e1 hf
  have nc42 : c42.length = c41.length + 1 := by rw [e1]; simp
  obtain ⟨c43, m44, h1, hf⟩ := bs2 hf
  have nc43 := kX2_init_len h1
  obtain ⟨c45, h1, hf⟩ := bs hf
  have nc45 := ptR_len h1
  obtain ⟨c46, e1⟩ : ∃ z, z = c45 ++ [(.inr (.inl (7, [])) : RC)] := ⟨_, rfl⟩
  have hf := lt1_n e1 hf
  have nc46 : c46.length = c45.length + 1 := by rw [e1]; simp
  obtain ⟨c47, m48, h1, hf⟩ := bs2 hf
  have nc47 := kX7_init_len h1
  obtain ⟨c49, h1, hf⟩ := bs hf
  have nc49 := ptR_len h1
  obtain ⟨c50, e1⟩ : ∃ z, z = c49 ++ [(.inr (.inr (1, 3, [])) : RC)] := ⟨_, rfl⟩
  have hf := lt1_n e1 hf
  have nc50 : c50.length = c49.length + 1 := by rw [e1]; simp
  obtain ⟨c51, h1, hf⟩ := bs hf
  have nc51 := ptR_len h1
  obtain ⟨g52, h1, hf⟩ := bs hf
  obtain ⟨c53, e1⟩ : ∃ z, z = c51 ++ [(.inr (.inl (3, [])) : RC)] := ⟨_, rfl⟩
  have hf := lt1_n e1 hf
  have nc53 : c53.length = c51.length + 1 := by rw [e1]; simp
  obtain ⟨c54, m55, h1, hf⟩ := bs2 hf
  have nc54 := kX3_init_len h1
  obtain ⟨c56, h1, hf⟩ := bs hf
  have nc56 := stR_len h1
  obtain ⟨g57, h1, hf⟩ := bs hf
  obtain ⟨c58, e1⟩ : ∃ z, z = c56 ++ [(.inr (.inl (3, [])) : RC)] := ⟨_, rfl⟩
  have hf := lt1_n e1 hf
  have nc58 : c58.length = c56.length + 1 := by rw [e1]; simp
  obtain ⟨c59, m60, h1, hf⟩ := bs2 hf
  have nc59 := kX3_init_len h1
  obtain ⟨c61, h1, hf⟩ := bs hf
  have nc61 := stR_len h1
  obtain ⟨g62, h1, hf⟩ := bs hf
  obtain ⟨c63, e1⟩ : ∃ z, z = c61 ++ [(.inr (.inl (3, [])) : RC)] := ⟨_, rfl⟩
  have hf := lt1_n e1 hf
  have nc63 : c63.length = c61.length + 1 := by rw [e1]; simp
  obtain ⟨c64, m65, h1, hf⟩ := bs2 hf
  have nc64 := kX3_init_len h1
  obtain ⟨c66, h1, hf⟩ := bs hf
  have nc66 := stR_len h1
  obtain ⟨c67, e1⟩ : ∃ z, z = c66 ++ [(.inr (.inl (6, [])) : RC)] := ⟨_, rfl⟩
  have hf := lt1_n e1 hf
  have nc67 : c67.length = c66.length + 1 := by rw [e1]; simp
  obtain ⟨g68, h1, hf⟩ := bs hf
  obtain ⟨g69, h1, hf⟩ := bs hf
  obtain ⟨g70, h1, hf⟩ := bs hf
  obtain ⟨c71, m72, h1, hf⟩ := bs2 hf
  have nc71 := kX6_init_len h1
  obtain ⟨c73, h1, hf⟩ := bs hf
  have nc73 := ptR_len h1
  obtain ⟨c74, e1⟩ : ∃ z, z = c73 ++ [(.inr (.inl (9, [])) : RC)] := ⟨_, rfl⟩
  have hf := lt1_n e1 hf
  have nc74 : c74.length = c73.length + 1 := by rw [e1]; simp
  obtain ⟨g75, h1, hf⟩ := bs hf
  obtain ⟨g76, h1, hf⟩ := bs hf
  obtain ⟨c77, m78, h1, hf⟩ := bs2 hf
  have nc77 := kX9_init_len h1
  obtain ⟨c79, h1, hf⟩ := bs hf
  have nc79 := ptR_len h1
  cases hf
  omega
set_option maxHeartbeats 4000000 in
set_option maxRecDepth 100000 in
theorem kX11_init_ok {l : Launch} {E : Ev} {x0 : Nat} {cs cs' : List RC} {mm mm' : Mem} (hZ : ∀ (x0 : Nat) (cs cs' : List RC) (mm mm' : Mem), Zr E cs mm → kX4_init (eB E) x0 cs mm = some (cs', mm') → Zr E cs' mm') (hf : kX11_init (eB E) x0 cs mm = some (cs', mm')) : CtN l yX11_init cX11_init 2 4 101 516 21346 E [.ref (eB E + x0)] cs mm cs' mm' := by
  refine Met.ofW (cc := cX11_init) (maxL := 2) (ret := none) (by decide) rfl ?_
  intro p e s m args below meth c s₁ B hml hv
  obtain ⟨rfl, X, hS, hr, hlocks, hin, hz, hsz⟩ := am_inN B hv rfl
  refine am_entry (Nat.le_of_ble_eq_true rfl) (fun ls hl => ?_)
  have hl : lv_has ls 2 [(0, .ref (eB E + x0))] := hl
  have hx := X.1
  have hb := X.2.1
  unfold kX11_init at hf
  refine lv_aload_n hx hb dX11_init_0 rfl (lv_at hl 0 rfl) ?_
  refine am_obj X (hml.trans hl.1.symm) (inBi 126 (by decide +kernel)) (inBi 127 (by decide +kernel)) (inB (List.mem_of_getElem? (i := 128) rfl) rfl) dX11_init_1 (Nat.le_of_ble_eq_true rfl) (Nat.le_of_ble_eq_true rfl) ?_
  refine lv_aload_n hx hb dX11_init_4 rfl (lv_at hl 0 rfl) ?_
  refine am_nO (ci := 8) (N := 6) (C := RX8) (T := TX8) (ty := tyX8) X hS hz (by omega) rfl inU_X8 tyX8_ok (inBi 129 (by decide +kernel)) (inBi 130 (by decide +kernel)) (inBi 96 (by decide +kernel)) (by decide +kernel) (Nat.le_of_ble_eq_true rfl) (Nat.le_of_ble_eq_true rfl) dX11_init_5 (fun H hS => ?_)
  obtain ⟨c1, e1⟩ : ∃ z, z = cs ++ [(.inr (.inl (8, [])) : RC)] := ⟨_, rfl⟩
  have hf := lt1_n e1 hf
  have nc1 : c1.length = cs.length + 1 := by rw [e1]; simp
  rw [← e1] at hS
  have hz := hz.le (cs' := c1) (by omega)
  have X := X.to c1
  refine lv_dup hx hb dX11_init_8 rfl ?_
  obtain ⟨c2, m3, h1, hf⟩ := bs2 hf
  have nc2 := kX8_init_len h1
  refine am_cN (As := []) X (hml.trans hl.1.symm) hS hz (by omega) (kX8_init_ok (l := l) (E := E) h1) mi_X11_11 ⟨Nat.le_of_ble_eq_true rfl, Nat.le_of_ble_eq_true rfl⟩ ⟨Nat.le_of_ble_eq_true rfl, Nat.le_of_ble_eq_true rfl⟩ rfl rfl (Nat.le_of_ble_eq_true rfl) dX11_init_9 (fun H locs hS hz => ?_)
  have X := X.to c2
  obtain ⟨c4, h1, hf⟩ := bs hf
  have nc4 := ptR_len h1
  refine am_ptR X hS fg_X11_12 rfl hin h1 dX11_init_12 (fun H locs hS => ?_)
  have hz := hz.le (cs' := c4) (by omega)
  have X := X.to c4
  refine lv_aload_n hx hb dX11_init_15 rfl (lv_at hl 0 rfl) ?_
  refine am_nO (ci := 1) (N := 6) (C := RX1) (T := TX1) (ty := tyX1) X hS hz (by omega) rfl inU_X1 tyX1_ok (inBi 158 (by decide +kernel)) (inBi 159 (by decide +kernel)) (inBi 97 (by decide +kernel)) (by decide +kernel) (Nat.le_of_ble_eq_true rfl) (Nat.le_of_ble_eq_true rfl) dX11_init_16 (fun H hS => ?_)
  obtain ⟨c5, e1⟩ : ∃ z, z = c4 ++ [(.inr (.inl (1, [])) : RC)] := ⟨_, rfl⟩
  have hf := lt1_n e1 hf
  have nc5 : c5.length = c4.length + 1 := by rw [e1]; simp
  rw [← e1] at hS
  have hz := hz.le (cs' := c5) (by omega)
  have X := X.to c5
  refine lv_dup hx hb dX11_init_19 rfl ?_
  obtain ⟨c6, m7, h1, hf⟩ := bs2 hf
  have nc6 := kX1_init_len h1
  refine am_cN (As := []) X (hml.trans hl.1.symm) hS hz (by omega) (kX1_init_ok (l := l) (E := E) h1) mi_X11_18 ⟨Nat.le_of_ble_eq_true rfl, Nat.le_of_ble_eq_true rfl⟩ ⟨Nat.le_of_ble_eq_true rfl, Nat.le_of_ble_eq_true rfl⟩ rfl rfl (Nat.le_of_ble_eq_true rfl) dX11_init_20 (fun H locs hS hz => ?_)
  have X := X.to c6
  obtain ⟨c8, h1, hf⟩ := bs hf
  have nc8 := ptR_len h1
  refine am_ptR X hS fg_X11_19 rfl hin h1 dX11_init_23 (fun H locs hS => ?_)
  have hz := hz.le (cs' := c8) (by omega)
  have X := X.to c8
  refine lv_aload_n hx hb dX11_init_26 rfl (lv_at hl 0 rfl) ?_
  refine am_nO (ci := 1) (N := 6) (C := RX1) (T := TX1) (ty := tyX1) X hS hz (by omega) rfl inU_X1 tyX1_ok (inBi 158 (by decide +kernel)) (inBi 159 (by decide +kernel)) (inBi 97 (by decide +kernel)) (by decide +kernel) (Nat.le_of_ble_eq_true rfl) (Nat.le_of_ble_eq_true rfl) dX11_init_27 (fun H hS => ?_)
  obtain ⟨c9, e1⟩ : ∃ z, z = c8 ++ [(.inr (.inl (1, [])) : RC)] := ⟨_, rfl⟩
  have hf := lt1_n e1 hf
  have nc9 : c9.length = c8.length + 1 := by rw [e1]; simp
  rw [← e1] at hS
  have hz := hz.le (cs' := c9) (by omega)
  have X := X.to c9
  refine lv_dup hx hb dX11_init_30 rfl ?_
  obtain ⟨c10, m11, h1, hf⟩ := bs2 hf
  have nc10 := kX1_init_len h1
  refine am_cN (As := []) X (hml.trans hl.1.symm) hS hz (by omega) (kX1_init_ok (l := l) (E := E) h1) mi_X11_18 ⟨Nat.le_of_ble_eq_true rfl, Nat.le_of_ble_eq_true rfl⟩ ⟨Nat.le_of_ble_eq_true rfl, Nat.le_of_ble_eq_true rfl⟩ rfl rfl (Nat.le_of_ble_eq_true rfl) dX11_init_31 (fun H locs hS hz => ?_)
  have X := X.to c10
  obtain ⟨c12, h1, hf⟩ := bs hf
  have nc12 := ptR_len h1
  refine am_ptR X hS fg_X11_23 rfl hin h1 dX11_init_34 (fun H locs hS => ?_)
  have hz := hz.le (cs' := c12) (by omega)
  have X := X.to c12
  refine lv_aload_n hx hb dX11_init_37 rfl (lv_at hl 0 rfl) ?_
  refine am_nO (ci := 4) (N := 3) (C := RX4) (T := TX4) (ty := tyX4) X hS hz (by omega) rfl inU_X4 tyX4_ok (inBi 198 (by decide +kernel)) (inBi 199 (by decide +kernel)) (inBi 98 (by decide +kernel)) (by decide +kernel) (Nat.le_of_ble_eq_true rfl) (Nat.le_of_ble_eq_true rfl) dX11_init_38 (fun H hS => ?_)
  obtain ⟨c13, e1⟩ : ∃ z, z = c12 ++ [(.inr (.inl (4, [])) : RC)] := ⟨_, rfl⟩
  have hf := lt1_n e1 hf
  have nc13 : c13.length = c12.length + 1 := by rw [e1]; simp
  rw [← e1] at hS
  have hz := hz.le (cs' := c13) (by omega)
  have X := X.to c13
  refine lv_dup hx hb dX11_init_41 rfl ?_
  obtain ⟨c14, m15, h1, hf⟩ := bs2 hf
  have nc14 := kX4_init_len h1
  refine am_cN (As := []) X (hml.trans hl.1.symm) hS hz (by omega) (kX4_init_ok (l := l) (E := E) (hZ _ _ _ _ _ hz h1) h1) mi_X11_28 ⟨Nat.le_of_ble_eq_true rfl, Nat.le_of_ble_eq_true rfl⟩ ⟨Nat.le_of_ble_eq_true rfl, Nat.le_of_ble_eq_true rfl⟩ rfl rfl (Nat.le_of_ble_eq_true rfl) dX11_init_42 (fun H locs hS hz => ?_)
  have X := X.to c14
  obtain ⟨c16, h1, hf⟩ := bs hf
  have nc16 := ptR_len h1
  refine am_ptR X hS fg_X11_29 rfl hin h1 dX11_init_45 (fun H locs hS => ?_)
  have hz := hz.le (cs' := c16) (by omega)
  have X := X.to c16
  refine lv_aload_n hx hb dX11_init_48 rfl (lv_at hl 0 rfl) ?_
  refine am_nO (ci := 4) (N := 3) (C := RX4) (T := TX4) (ty := tyX4) X hS hz (by omega) rfl inU_X4 tyX4_ok (inBi 198 (by decide +kernel)) (inBi 199 (by decide +kernel)) (inBi 98 (by decide +kernel)) (by decide +kernel) (Nat.le_of_ble_eq_true rfl) (Nat.le_of_ble_eq_true rfl) dX11_init_49 (fun H hS => ?_)
  obtain ⟨c17, e1⟩ : ∃ z, z = c16 ++ [(.inr (.inl (4, [])) : RC)] := ⟨_, rfl⟩
  have hf := lt1_n e1 hf
  have nc17 : c17.length = c16.length + 1 := by rw [e1]; simp
  rw [← e1] at hS
  have hz := hz.le (cs' := c17) (by omega)
  have X := X.to c17
  refine lv_dup hx hb dX11_init_52 rfl ?_
  obtain ⟨c18, m19, h1, hf⟩ := bs2 hf
  have nc18 := kX4_init_len h1
  refine am_cN (As := []) X (hml.trans hl.1.symm) hS hz (by omega) (kX4_init_ok (l := l) (E := E) (hZ _ _ _ _ _ hz h1) h1) mi_X11_28 ⟨Nat.le_of_ble_eq_true rfl, Nat.le_of_ble_eq_true rfl⟩ ⟨Nat.le_of_ble_eq_true rfl, Nat.le_of_ble_eq_true rfl⟩ rfl rfl (Nat.le_of_ble_eq_true rfl) dX11_init_53 (fun H locs hS hz => ?_)
  have X := X.to c18
  obtain ⟨c20, h1, hf⟩ := bs hf
  have nc20 := ptR_len h1
  refine am_ptR X hS fg_X11_33 rfl hin h1 dX11_init_56 (fun H locs hS => ?_)
  have hz := hz.le (cs' := c20) (by omega)
  have X := X.to c20
  refine lv_aload_n hx hb dX11_init_59 rfl (lv_at hl 0 rfl) ?_
  refine am_nO (ci := 0) (N := 3) (C := RX0) (T := TX0) (ty := tyX0) X hS hz (by omega) rfl inU_X0 tyX0_ok (inBi 218 (by decide +kernel)) (inBi 219 (by decide +kernel)) (inBi 99 (by decide +kernel)) (by decide +kernel) (Nat.le_of_ble_eq_true rfl) (Nat.le_of_ble_eq_true rfl) dX11_init_60 (fun H hS => ?_)
  obtain ⟨c21, e1⟩ : ∃ z, z = c20 ++ [(.inr (.inl (0, [])) : RC)] := ⟨_, rfl⟩
  have hf := lt1_n e1 hf
  have nc21 : c21.length = c20.length + 1 := by rw [e1]; simp
  rw [← e1] at hS
  have hz := hz.le (cs' := c21) (by omega)
  have X := X.to c21
  refine lv_dup hx hb dX11_init_63 rfl ?_
  obtain ⟨c22, m23, h1, hf⟩ := bs2 hf
  have nc22 := kX0_init_len h1
  refine am_cN (As := []) X (hml.trans hl.1.symm) hS hz (by omega) (kX0_init_ok (l := l) (E := E) h1) mi_X11_38 ⟨Nat.le_of_ble_eq_true rfl, Nat.le_of_ble_eq_true rfl⟩ ⟨Nat.le_of_ble_eq_true rfl, Nat.le_of_ble_eq_true rfl⟩ rfl rfl (Nat.le_of_ble_eq_true rfl) dX11_init_64 (fun H locs hS hz => ?_)
  have X := X.to c22
  obtain ⟨c24, h1, hf⟩ := bs hf
  have nc24 := ptR_len h1
  refine am_ptR X hS fg_X11_39 rfl hin h1 dX11_init_67 (fun H locs hS => ?_)
  have hz := hz.le (cs' := c24) (by omega)
  have X := X.to c24
  refine lv_aload_n hx hb dX11_init_70 rfl (lv_at hl 0 rfl) ?_
  refine am_nO (ci := 0) (N := 3) (C := RX0) (T := TX0) (ty := tyX0) X hS hz (by omega) rfl inU_X0 tyX0_ok (inBi 218 (by decide +kernel)) (inBi 219 (by decide +kernel)) (inBi 99 (by decide +kernel)) (by decide +kernel) (Nat.le_of_ble_eq_true rfl) (Nat.le_of_ble_eq_true rfl) dX11_init_71 (fun H hS => ?_)
  obtain ⟨c25, e1⟩ : ∃ z, z = c24 ++ [(.inr (.inl (0, [])) : RC)] := ⟨_, rfl⟩
  have hf := lt1_n e1 hf
  have nc25 : c25.length = c24.length + 1 := by rw [e1]; simp
  rw [← e1] at hS
  have hz := hz.le (cs' := c25) (by omega)
  have X := X.to c25
  refine lv_dup hx hb dX11_init_74 rfl ?_
  obtain ⟨c26, m27, h1, hf⟩ := bs2 hf
  have nc26 := kX0_init_len h1
  refine am_cN (As := []) X (hml.trans hl.1.symm) hS hz (by omega) (kX0_init_ok (l := l) (E := E) h1) mi_X11_38 ⟨Nat.le_of_ble_eq_true rfl, Nat.le_of_ble_eq_true rfl⟩ ⟨Nat.le_of_ble_eq_true rfl, Nat.le_of_ble_eq_true rfl⟩ rfl rfl (Nat.le_of_ble_eq_true rfl) dX11_init_75 (fun H locs hS hz => ?_)
  have X := X.to c26
  obtain ⟨c28, h1, hf⟩ := bs hf
  have nc28 := ptR_len h1
  refine am_ptR X hS fg_X11_43 rfl hin h1 dX11_init_78 (fun H locs hS => ?_)
  have hz := hz.le (cs' := c28) (by omega)
  have X := X.to c28
  refine lv_aload_n hx hb dX11_init_81 rfl (lv_at hl 0 rfl) ?_
  refine am_nO (ci := 5) (N := 5) (C := RX5) (T := TX5) (ty := tyX5) X hS hz (by omega) rfl inU_X5 tyX5_ok (inBi 235 (by decide +kernel)) (inBi 236 (by decide +kernel)) (inBi 100 (by decide +kernel)) (by decide +kernel) (Nat.le_of_ble_eq_true rfl) (Nat.le_of_ble_eq_true rfl) dX11_init_82 (fun H hS => ?_)
  obtain ⟨c29, e1⟩ : ∃ z, z = c28 ++ [(.inr (.inl (5, [])) : RC)] := ⟨_, rfl⟩
  have hf := lt1_n e1 hf
  have nc29 : c29.length = c28.length + 1 := by rw [e1]; simp
  rw [← e1] at hS
  have hz := hz.le (cs' := c29) (by omega)
  have X := X.to c29
  refine lv_dup hx hb dX11_init_85 rfl ?_
  refine lv_aload_n hx hb dX11_init_86 rfl (lv_at hl 0 rfl) ?_
  obtain ⟨g30, h1, hf⟩ := bs hf
  refine am_gr X hS fl_X11_19 rfl (gtR_n h1) dX11_init_87 ?_
  refine lv_aload_n hx hb dX11_init_90 rfl (lv_at hl 0 rfl) ?_
  obtain ⟨g31, h1, hf⟩ := bs hf
  refine am_gr X hS fl_X11_29 rfl (gtR_n h1) dX11_init_91 ?_
  obtain ⟨c32, m33, h1, hf⟩ := bs2 hf
  have nc32 := kX5_init_len h1
  refine am_cN (As := [.ref (eB E + g30), .ref (eB E + g31)]) X (hml.trans hl.1.symm) hS hz (by omega) (kX5_init_ok (l := l) (E := E) h1) mi_X11_48 ⟨Nat.le_of_ble_eq_true rfl, Nat.le_of_ble_eq_true rfl⟩ ⟨Nat.le_of_ble_eq_true rfl, Nat.le_of_ble_eq_true rfl⟩ rfl rfl (Nat.le_of_ble_eq_true rfl) dX11_init_94 (fun H locs hS hz => ?_)
  have X := X.to c32
  obtain ⟨c34, h1, hf⟩ := bs hf
  have nc34 := ptR_len h1
  refine am_ptR X hS fg_X11_51 rfl hin h1 dX11_init_97 (fun H locs hS => ?_)
  have hz := hz.le (cs' := c34) (by omega)
  have X := X.to c34
  refine lv_aload_n hx hb dX11_init_100 rfl (lv_at hl 0 rfl) ?_
  refine am_nO (ci := 10) (N := 12) (C := RX10) (T := TX10) (ty := tyX10) X hS hz (by omega) rfl inU_X10 tyX10_ok (inBi 258 (by decide +kernel)) (inBi 259 (by decide +kernel)) (inBi 101 (by decide +kernel)) (by decide +kernel) (Nat.le_of_ble_eq_true rfl) (Nat.le_of_ble_eq_true rfl) dX11_init_101 (fun H hS => ?_)
  obtain ⟨c35, e1⟩ : ∃ z, z = c34 ++ [(.inr (.inl (10, [])) : RC)] := ⟨_, rfl⟩
  have hf := lt1_n e1 hf
  have nc35 : c35.length = c34.length + 1 := by rw [e1]; simp
  rw [← e1] at hS
  have hz := hz.le (cs' := c35) (by omega)
  have X := X.to c35
  refine lv_dup hx hb dX11_init_104 rfl ?_
  refine lv_aload_n hx hb dX11_init_105 rfl (lv_at hl 0 rfl) ?_
  obtain ⟨g36, h1, hf⟩ := bs hf
  refine am_gr X hS fl_X11_12 rfl (gtR_n h1) dX11_init_106 ?_
  refine lv_aload_n hx hb dX11_init_109 rfl (lv_at hl 0 rfl) ?_
  obtain ⟨g37, h1, hf⟩ := bs hf
  refine am_gr X hS fl_X11_19 rfl (gtR_n h1) dX11_init_110 ?_
  refine lv_aload_n hx hb dX11_init_113 rfl (lv_at hl 0 rfl) ?_
  obtain ⟨g38, h1, hf⟩ := bs hf
  refine am_gr X hS fl_X11_51 rfl (gtR_n h1) dX11_init_114 ?_
  obtain ⟨c39, m40, h1, hf⟩ := bs2 hf
  have nc39 := kX10_init_len h1
  refine am_cN (As := [.ref (eB E + g36), .ref (eB E + g37), .ref (eB E + g38)]) X (hml.trans hl.1.symm) hS hz (by omega) (kX10_init_ok (l := l) (E := E) h1) mi_X11_57 ⟨Nat.le_of_ble_eq_true rfl, Nat.le_of_ble_eq_true rfl⟩ ⟨Nat.le_of_ble_eq_true rfl, Nat.le_of_ble_eq_true rfl⟩ rfl rfl (Nat.le_of_ble_eq_true rfl) dX11_init_117 (fun H locs hS hz => ?_)
  have X := X.to c39
  obtain ⟨c41, h1, hf⟩ := bs hf
  have nc41 := ptR_len h1
  refine am_ptR X hS fg_X11_60 rfl hin h1 dX11_init_120 (fun H locs hS => ?_)
  have hz := hz.le (cs' := c41) (by omega)
  have X := X.to c41
  refine lv_aload_n hx hb dX11_init_123 rfl (lv_at hl 0 rfl) ?_
  refine am_nO (ci := 2) (N := 6) (C := RX2) (T := TX2) (ty := tyX2) X hS hz (by omega) rfl inU_X2 tyX2_ok (inBi 304 (by decide +kernel)) (inBi 305 (by decide +kernel)) (inBi 102 (by decide +kernel)) (by decide +kernel) (Nat.le_of_ble_eq_true rfl) (Nat.le_of_ble_eq_true rfl) dX11_init_124 (fun H hS => ?_)
  obtain ⟨c42, e1⟩ : ∃ z, z = c41 ++ [(.inr (.inl (2, [])) : RC)] := ⟨_, rfl⟩
  have hf := lt1_n e1 hf
  have nc42 : c42.length = c41.length + 1 := by rw [e1]; simp
  rw [← e1] at hS
  have hz := hz.le (cs' := c42) (by omega)
  have X := X.to c42
  refine lv_dup hx hb dX11_init_127 rfl ?_
  obtain ⟨c43, m44, h1, hf⟩ := bs2 hf
  have nc43 := kX2_init_len h1
  refine am_cN (As := []) X (hml.trans hl.1.symm) hS hz (by omega) (kX2_init_ok (l := l) (E := E) h1) mi_X11_66 ⟨Nat.le_of_ble_eq_true rfl, Nat.le_of_ble_eq_true rfl⟩ ⟨Nat.le_of_ble_eq_true rfl, Nat.le_of_ble_eq_true rfl⟩ rfl rfl (Nat.le_of_ble_eq_true rfl) dX11_init_128 (fun H locs hS hz => ?_)
  have X := X.to c43
  obtain ⟨c45, h1, hf⟩ := bs hf
  have nc45 := ptR_len h1
  refine am_ptR X hS fg_X11_67 rfl hin h1 dX11_init_131 (fun H locs hS => ?_)
  have hz := hz.le (cs' := c45) (by omega)
  have X := X.to c45
  refine lv_aload_n hx hb dX11_init_134 rfl (lv_at hl 0 rfl) ?_
  refine am_nO (ci := 7) (N := 2) (C := RX7) (T := TX7) (ty := tyX7) X hS hz (by omega) rfl inU_X7 tyX7_ok (inBi 344 (by decide +kernel)) (inBi 345 (by decide +kernel)) (inBi 103 (by decide +kernel)) (by decide +kernel) (Nat.le_of_ble_eq_true rfl) (Nat.le_of_ble_eq_true rfl) dX11_init_135 (fun H hS => ?_)
  obtain ⟨c46, e1⟩ : ∃ z, z = c45 ++ [(.inr (.inl (7, [])) : RC)] := ⟨_, rfl⟩
  have hf := lt1_n e1 hf
  have nc46 : c46.length = c45.length + 1 := by rw [e1]; simp
  rw [← e1] at hS
  have hz := hz.le (cs' := c46) (by omega)
  have X := X.to c46
  refine lv_dup hx hb dX11_init_138 rfl ?_
  obtain ⟨c47, m48, h1, hf⟩ := bs2 hf
  have nc47 := kX7_init_len h1
  refine am_cN (As := []) X (hml.trans hl.1.symm) hS hz (by omega) (kX7_init_ok (l := l) (E := E) h1) mi_X11_73 ⟨Nat.le_of_ble_eq_true rfl, Nat.le_of_ble_eq_true rfl⟩ ⟨Nat.le_of_ble_eq_true rfl, Nat.le_of_ble_eq_true rfl⟩ rfl rfl (Nat.le_of_ble_eq_true rfl) dX11_init_139 (fun H locs hS hz => ?_)
  have X := X.to c47
  obtain ⟨c49, h1, hf⟩ := bs hf
  have nc49 := ptR_len h1
  refine am_ptR X hS fg_X11_74 rfl hin h1 dX11_init_142 (fun H locs hS => ?_)
  have hz := hz.le (cs' := c49) (by omega)
  have X := X.to c49
  refine lv_aload_n hx hb dX11_init_145 rfl (lv_at hl 0 rfl) ?_
  refine lv_iconst (v := 3) hx hb dX11_init_146 (by decide) ?_
  refine am_nR (N' := 3) (t := 1) (C := "PartedFellows$Image") X hS (by omega) (by decide) rfl (inBi 361 (by decide +kernel)) (inNi 362 (by decide +kernel)) (by decide) (by decide) (Nat.le_of_ble_eq_true rfl) (Nat.le_of_ble_eq_true rfl) (Nat.le_of_ble_eq_true rfl) dX11_init_147 (fun H hS => ?_)
  obtain ⟨c50, e1⟩ : ∃ z, z = c49 ++ [(.inr (.inr (1, 3, [])) : RC)] := ⟨_, rfl⟩
  have hf := lt1_n e1 hf
  have nc50 : c50.length = c49.length + 1 := by rw [e1]; simp
  rw [← e1] at hS
  have hz := hz.le (cs' := c50) (by omega)
  have X := X.to c50
  obtain ⟨c51, h1, hf⟩ := bs hf
  have nc51 := ptR_len h1
  refine am_ptR X hS fg_X11_80 rfl hin h1 dX11_init_150 (fun H locs hS => ?_)
  have hz := hz.le (cs' := c51) (by omega)
  have X := X.to c51
  refine lv_iconst (v := 0) hx hb dX11_init_153 (by decide) ?_
  refine lv_istore_n (lv' := [(1, .int 0), (0, .ref (eB E + x0))]) hx hb dX11_init_154 rfl hl (by decide) rfl (fun ls hl => ?_)
  refine lv_iload_n hx hb dX11_init_155 rfl (lv_at hl 0 rfl) ?_
  refine lv_iconst (v := 3) hx hb dX11_init_156 (by decide) ?_
  refine lv_icmp_ge (tgt := 179) hx hb dX11_init_157 (by decide) (fun q => absurd q (by decide)) (fun _ => ?_)
  refine lv_aload_n hx hb dX11_init_160 rfl (lv_at hl 1 rfl) ?_
  obtain ⟨g52, h1, hf⟩ := bs hf
  refine am_gr X hS fl_X11_80 rfl (gtR_n h1) dX11_init_161 ?_
  refine lv_iload_n hx hb dX11_init_164 rfl (lv_at hl 0 rfl) ?_
  refine am_nO (ci := 3) (N := 2) (C := RX3) (T := TX3) (ty := tyX3) X hS hz (by omega) rfl inU_X3 tyX3_ok (inBi 361 (by decide +kernel)) (inBi 363 (by decide +kernel)) (inBi 104 (by decide +kernel)) (by decide +kernel) (Nat.le_of_ble_eq_true rfl) (Nat.le_of_ble_eq_true rfl) dX11_init_165 (fun H hS => ?_)
  obtain ⟨c53, e1⟩ : ∃ z, z = c51 ++ [(.inr (.inl (3, [])) : RC)] := ⟨_, rfl⟩
  have hf := lt1_n e1 hf
  have nc53 : c53.length = c51.length + 1 := by rw [e1]; simp
  rw [← e1] at hS
  have hz := hz.le (cs' := c53) (by omega)
  have X := X.to c53
  refine lv_dup hx hb dX11_init_168 rfl ?_
  obtain ⟨c54, m55, h1, hf⟩ := bs2 hf
  have nc54 := kX3_init_len h1
  refine am_cN (As := []) X (hml.trans hl.1.symm) hS hz (by omega) (kX3_init_ok (l := l) (E := E) h1) mi_X11_84 ⟨Nat.le_of_ble_eq_true rfl, Nat.le_of_ble_eq_true rfl⟩ ⟨Nat.le_of_ble_eq_true rfl, Nat.le_of_ble_eq_true rfl⟩ rfl rfl (Nat.le_of_ble_eq_true rfl) dX11_init_169 (fun H locs hS hz => ?_)
  have X := X.to c54
  obtain ⟨c56, h1, hf⟩ := bs hf
  have nc56 := stR_len h1
  refine am_stR X hS h1 dX11_init_172 (fun H locs hS => ?_)
  have hz := hz.le (cs' := c56) (by omega)
  have X := X.to c56
  refine lv_iinc (v := 1) (lv' := [(1, .int 1), (0, .ref (eB E + x0))]) hx hb dX11_init_173 hl (k := 0) rfl (by decide) (by decide) rfl (fun ls hl => ?_)
  refine lv_goto (tgt := 155) hx hb dX11_init_176 (by decide) ?_
  refine lv_iload_n hx hb dX11_init_155 rfl (lv_at hl 0 rfl) ?_
  refine lv_iconst (v := 3) hx hb dX11_init_156 (by decide) ?_
  refine lv_icmp_ge (tgt := 179) hx hb dX11_init_157 (by decide) (fun q => absurd q (by decide)) (fun _ => ?_)
  refine lv_aload_n hx hb dX11_init_160 rfl (lv_at hl 1 rfl) ?_
  obtain ⟨g57, h1, hf⟩ := bs hf
  refine am_gr X hS fl_X11_80 rfl (gtR_n h1) dX11_init_161 ?_
  refine lv_iload_n hx hb dX11_init_164 rfl (lv_at hl 0 rfl) ?_
  refine am_nO (ci := 3) (N := 2) (C := RX3) (T := TX3) (ty := tyX3) X hS hz (by omega) rfl inU_X3 tyX3_ok (inBi 361 (by decide +kernel)) (inBi 363 (by decide +kernel)) (inBi 104 (by decide +kernel)) (by decide +kernel) (Nat.le_of_ble_eq_true rfl) (Nat.le_of_ble_eq_true rfl) dX11_init_165 (fun H hS => ?_)
  obtain ⟨c58, e1⟩ : ∃ z, z = c56 ++ [(.inr (.inl (3, [])) : RC)] := ⟨_, rfl⟩
  have hf := lt1_n e1 hf
  have nc58 : c58.length = c56.length + 1 := by rw [e1]; simp
  rw [← e1] at hS
  have hz := hz.le (cs' := c58) (by omega)
  have X := X.to c58
  refine lv_dup hx hb dX11_init_168 rfl ?_
  obtain ⟨c59, m60, h1, hf⟩ := bs2 hf
  have nc59 := kX3_init_len h1
  refine am_cN (As := []) X (hml.trans hl.1.symm) hS hz (by omega) (kX3_init_ok (l := l) (E := E) h1) mi_X11_84 ⟨Nat.le_of_ble_eq_true rfl, Nat.le_of_ble_eq_true rfl⟩ ⟨Nat.le_of_ble_eq_true rfl, Nat.le_of_ble_eq_true rfl⟩ rfl rfl (Nat.le_of_ble_eq_true rfl) dX11_init_169 (fun H locs hS hz => ?_)
  have X := X.to c59
  obtain ⟨c61, h1, hf⟩ := bs hf
  have nc61 := stR_len h1
  refine am_stR X hS h1 dX11_init_172 (fun H locs hS => ?_)
  have hz := hz.le (cs' := c61) (by omega)
  have X := X.to c61
  refine lv_iinc (v := 2) (lv' := [(1, .int 2), (0, .ref (eB E + x0))]) hx hb dX11_init_173 hl (k := 0) rfl (by decide) (by decide) rfl (fun ls hl => ?_)
  refine lv_goto (tgt := 155) hx hb dX11_init_176 (by decide) ?_
  refine lv_iload_n hx hb dX11_init_155 rfl (lv_at hl 0 rfl) ?_
  refine lv_iconst (v := 3) hx hb dX11_init_156 (by decide) ?_
  refine lv_icmp_ge (tgt := 179) hx hb dX11_init_157 (by decide) (fun q => absurd q (by decide)) (fun _ => ?_)
  refine lv_aload_n hx hb dX11_init_160 rfl (lv_at hl 1 rfl) ?_
  obtain ⟨g62, h1, hf⟩ := bs hf
  refine am_gr X hS fl_X11_80 rfl (gtR_n h1) dX11_init_161 ?_
  refine lv_iload_n hx hb dX11_init_164 rfl (lv_at hl 0 rfl) ?_
  refine am_nO (ci := 3) (N := 2) (C := RX3) (T := TX3) (ty := tyX3) X hS hz (by omega) rfl inU_X3 tyX3_ok (inBi 361 (by decide +kernel)) (inBi 363 (by decide +kernel)) (inBi 104 (by decide +kernel)) (by decide +kernel) (Nat.le_of_ble_eq_true rfl) (Nat.le_of_ble_eq_true rfl) dX11_init_165 (fun H hS => ?_)
  obtain ⟨c63, e1⟩ : ∃ z, z = c61 ++ [(.inr (.inl (3, [])) : RC)] := ⟨_, rfl⟩
  have hf := lt1_n e1 hf
  have nc63 : c63.length = c61.length + 1 := by rw [e1]; simp
  rw [← e1] at hS
  have hz := hz.le (cs' := c63) (by omega)
  have X := X.to c63
  refine lv_dup hx hb dX11_init_168 rfl ?_
  obtain ⟨c64, m65, h1, hf⟩ := bs2 hf
  have nc64 := kX3_init_len h1
  refine am_cN (As := []) X (hml.trans hl.1.symm) hS hz (by omega) (kX3_init_ok (l := l) (E := E) h1) mi_X11_84 ⟨Nat.le_of_ble_eq_true rfl, Nat.le_of_ble_eq_true rfl⟩ ⟨Nat.le_of_ble_eq_true rfl, Nat.le_of_ble_eq_true rfl⟩ rfl rfl (Nat.le_of_ble_eq_true rfl) dX11_init_169 (fun H locs hS hz => ?_)
  have X := X.to c64
  obtain ⟨c66, h1, hf⟩ := bs hf
  have nc66 := stR_len h1
  refine am_stR X hS h1 dX11_init_172 (fun H locs hS => ?_)
  have hz := hz.le (cs' := c66) (by omega)
  have X := X.to c66
  refine lv_iinc (v := 3) (lv' := [(1, .int 3), (0, .ref (eB E + x0))]) hx hb dX11_init_173 hl (k := 0) rfl (by decide) (by decide) rfl (fun ls hl => ?_)
  refine lv_goto (tgt := 155) hx hb dX11_init_176 (by decide) ?_
  refine lv_iload_n hx hb dX11_init_155 rfl (lv_at hl 0 rfl) ?_
  refine lv_iconst (v := 3) hx hb dX11_init_156 (by decide) ?_
  refine lv_icmp_ge (tgt := 179) hx hb dX11_init_157 (by decide) (fun _ => ?_) (fun q => absurd (by decide) q)
  refine lv_aload_n hx hb dX11_init_179 rfl (lv_at hl 1 rfl) ?_
  refine am_nO (ci := 6) (N := 8) (C := RX6) (T := TX6) (ty := tyX6) X hS hz (by omega) rfl inU_X6 tyX6_ok (inBi 381 (by decide +kernel)) (inBi 382 (by decide +kernel)) (inBi 105 (by decide +kernel)) (by decide +kernel) (Nat.le_of_ble_eq_true rfl) (Nat.le_of_ble_eq_true rfl) dX11_init_180 (fun H hS => ?_)
  obtain ⟨c67, e1⟩ : ∃ z, z = c66 ++ [(.inr (.inl (6, [])) : RC)] := ⟨_, rfl⟩
  have hf := lt1_n e1 hf
  have nc67 : c67.length = c66.length + 1 := by rw [e1]; simp
  rw [← e1] at hS
  have hz := hz.le (cs' := c67) (by omega)
  have X := X.to c67
  refine lv_dup hx hb dX11_init_183 rfl ?_
  refine lv_aload_n hx hb dX11_init_184 rfl (lv_at hl 1 rfl) ?_
  obtain ⟨g68, h1, hf⟩ := bs hf
  refine am_gr X hS fl_X11_19 rfl (gtR_n h1) dX11_init_185 ?_
  refine lv_aload_n hx hb dX11_init_188 rfl (lv_at hl 1 rfl) ?_
  obtain ⟨g69, h1, hf⟩ := bs hf
  refine am_gr X hS fl_X11_39 rfl (gtR_n h1) dX11_init_189 ?_
  refine lv_aload_n hx hb dX11_init_192 rfl (lv_at hl 1 rfl) ?_
  obtain ⟨g70, h1, hf⟩ := bs hf
  refine am_gr X hS fl_X11_51 rfl (gtR_n h1) dX11_init_193 ?_
  obtain ⟨c71, m72, h1, hf⟩ := bs2 hf
  have nc71 := kX6_init_len h1
  refine am_cN (As := [.ref (eB E + g68), .ref (eB E + g69), .ref (eB E + g70)]) X (hml.trans hl.1.symm) hS hz (by omega) (kX6_init_ok (l := l) (E := E) h1) mi_X11_87 ⟨Nat.le_of_ble_eq_true rfl, Nat.le_of_ble_eq_true rfl⟩ ⟨Nat.le_of_ble_eq_true rfl, Nat.le_of_ble_eq_true rfl⟩ rfl rfl (Nat.le_of_ble_eq_true rfl) dX11_init_196 (fun H locs hS hz => ?_)
  have X := X.to c71
  obtain ⟨c73, h1, hf⟩ := bs hf
  have nc73 := ptR_len h1
  refine am_ptR X hS fg_X11_90 rfl hin h1 dX11_init_199 (fun H locs hS => ?_)
  have hz := hz.le (cs' := c73) (by omega)
  have X := X.to c73
  refine lv_aload_n hx hb dX11_init_202 rfl (lv_at hl 1 rfl) ?_
  refine am_nO (ci := 9) (N := 4) (C := RX9) (T := TX9) (ty := tyX9) X hS hz (by omega) rfl inU_X9 tyX9_ok (inBi 418 (by decide +kernel)) (inBi 419 (by decide +kernel)) (inBi 106 (by decide +kernel)) (by decide +kernel) (Nat.le_of_ble_eq_true rfl) (Nat.le_of_ble_eq_true rfl) dX11_init_203 (fun H hS => ?_)
  obtain ⟨c74, e1⟩ : ∃ z, z = c73 ++ [(.inr (.inl (9, [])) : RC)] := ⟨_, rfl⟩
  have hf := lt1_n e1 hf
  have nc74 : c74.length = c73.length + 1 := by rw [e1]; simp
  rw [← e1] at hS
  have hz := hz.le (cs' := c74) (by omega)
  have X := X.to c74
  refine lv_dup hx hb dX11_init_206 rfl ?_
  refine lv_aload_n hx hb dX11_init_207 rfl (lv_at hl 1 rfl) ?_
  obtain ⟨g75, h1, hf⟩ := bs hf
  refine am_gr X hS fl_X11_19 rfl (gtR_n h1) dX11_init_208 ?_
  refine lv_aload_n hx hb dX11_init_211 rfl (lv_at hl 1 rfl) ?_
  obtain ⟨g76, h1, hf⟩ := bs hf
  refine am_gr X hS fl_X11_51 rfl (gtR_n h1) dX11_init_212 ?_
  obtain ⟨c77, m78, h1, hf⟩ := bs2 hf
  have nc77 := kX9_init_len h1
  refine am_cN (As := [.ref (eB E + g75), .ref (eB E + g76)]) X (hml.trans hl.1.symm) hS hz (by omega) (kX9_init_ok (l := l) (E := E) h1) mi_X11_96 ⟨Nat.le_of_ble_eq_true rfl, Nat.le_of_ble_eq_true rfl⟩ ⟨Nat.le_of_ble_eq_true rfl, Nat.le_of_ble_eq_true rfl⟩ rfl rfl (Nat.le_of_ble_eq_true rfl) dX11_init_215 (fun H locs hS hz => ?_)
  have X := X.to c77
  obtain ⟨c79, h1, hf⟩ := bs hf
  have nc79 := ptR_len h1
  refine am_ptR X hS fg_X11_99 rfl hin h1 dX11_init_218 (fun H locs hS => ?_)
  have hz := hz.le (cs' := c79) (by omega)
  have X := X.to c79
  cases hf
  exact am_rvN X hS hz hr dX11_init_221 hlocks
theorem kX12_init_len {B : Nat} {x0 : Nat} {cs cs' : List RC} {mm mm' : Mem} (hf : kX12_init B x0 cs mm = some (cs', mm')) : cs'.length = cs.length + 24 := by
  unfold kX12_init at hf
  obtain ⟨c1, e1⟩ : ∃ z, z = cs ++ [(.inl 2 : RC)] := ⟨_, rfl⟩
  have hf := lt1_n e1 hf
  have nc1 : c1.length = cs.length + 1 := by rw [e1]; simp
  obtain ⟨c2, h1, hf⟩ := bs hf
  have nc2 := ptR_len h1
  obtain ⟨m3, h1, hf⟩ := bs hf
  obtain ⟨c4, e1⟩ : ∃ z, z = c2 ++ [(.inl 600 : RC)] := ⟨_, rfl⟩
  have hf := lt1_n e1 hf
  have nc4 : c4.length = c2.length + 1 := by rw [e1]; simp
  obtain ⟨c5, h1, hf⟩ := bs hf
  have nc5 := ptR_len h1
  obtain ⟨c6, e1⟩ : ∃ z, z = c5 ++ [(.inl 42 : RC)] := ⟨_, rfl⟩
  have hf := lt1_n e1 hf
  have nc6 : c6.length = c5.length + 1 := by rw [e1]; simp
  obtain ⟨c7, h1, hf⟩ := bs hf
  have nc7 := ptR_len h1
  obtain ⟨c8, e1⟩ : ∃ z, z = c7 ++ [(.inl 16 : RC)] := ⟨_, rfl⟩
  have hf := lt1_n e1 hf
  have nc8 : c8.length = c7.length + 1 := by rw [e1]; simp
  obtain ⟨c9, h1, hf⟩ := bs hf
  have nc9 := ptR_len h1
  obtain ⟨c10, e1⟩ : ∃ z, z = c9 ++ [(.inl 42 : RC)] := ⟨_, rfl⟩
  have hf := lt1_n e1 hf
  have nc10 : c10.length = c9.length + 1 := by rw [e1]; simp
  obtain ⟨c11, h1, hf⟩ := bs hf
  have nc11 := ptR_len h1
  obtain ⟨c12, e1⟩ : ∃ z, z = c11 ++ [(.inl 16 : RC)] := ⟨_, rfl⟩
  have hf := lt1_n e1 hf
  have nc12 : c12.length = c11.length + 1 := by rw [e1]; simp
  obtain ⟨c13, h1, hf⟩ := bs hf
  have nc13 := ptR_len h1
  obtain ⟨c14, e1⟩ : ∃ z, z = c13 ++ [(.inl 150 : RC)] := ⟨_, rfl⟩
  have hf := lt1_n e1 hf
  have nc14 : c14.length = c13.length + 1 := by rw [e1]; simp
  obtain ⟨c15, h1, hf⟩ := bs hf
  have nc15 := ptR_len h1
  obtain ⟨c16, e1⟩ : ∃ z, z = c15 ++ [(.inl 150 : RC)] := ⟨_, rfl⟩
  have hf := lt1_n e1 hf
  have nc16 : c16.length = c15.length + 1 := by rw [e1]; simp
  obtain ⟨c17, h1, hf⟩ := bs hf
  have nc17 := ptR_len h1
  obtain ⟨c18, e1⟩ : ∃ z, z = c17 ++ [(.inl 150 : RC)] := ⟨_, rfl⟩
  have hf := lt1_n e1 hf
  have nc18 : c18.length = c17.length + 1 := by rw [e1]; simp
  obtain ⟨c19, h1, hf⟩ := bs hf
  have nc19 := ptR_len h1
  obtain ⟨c20, e1⟩ : ∃ z, z = c19 ++ [(.inl 150 : RC)] := ⟨_, rfl⟩
  have hf := lt1_n e1 hf
  have nc20 : c20.length = c19.length + 1 := by rw [e1]; simp
  obtain ⟨c21, h1, hf⟩ := bs hf
  have nc21 := ptR_len h1
  obtain ⟨c22, e1⟩ : ∃ z, z = c21 ++ [(.inl 150 : RC)] := ⟨_, rfl⟩
  have hf := lt1_n e1 hf
  have nc22 : c22.length = c21.length + 1 := by rw [e1]; simp
  obtain ⟨c23, h1, hf⟩ := bs hf
  have nc23 := ptR_len h1
  obtain ⟨c24, e1⟩ : ∃ z, z = c23 ++ [(.inl 8 : RC)] := ⟨_, rfl⟩
  have hf := lt1_n e1 hf
  have nc24 : c24.length = c23.length + 1 := by rw [e1]; simp
  obtain ⟨c25, h1, hf⟩ := bs hf
  have nc25 := ptR_len h1
  obtain ⟨c26, e1⟩ : ∃ z, z = c25 ++ [(.inl 200 : RC)] := ⟨_, rfl⟩
  have hf := lt1_n e1 hf
  have nc26 : c26.length = c25.length + 1 := by rw [e1]; simp
  obtain ⟨c27, h1, hf⟩ := bs hf
  have nc27 := ptR_len h1
  obtain ⟨c28, e1⟩ : ∃ z, z = c27 ++ [(.inl 200 : RC)] := ⟨_, rfl⟩
  have hf := lt1_n e1 hf
  have nc28 : c28.length = c27.length + 1 := by rw [e1]; simp
  obtain ⟨c29, h1, hf⟩ := bs hf
  have nc29 := ptR_len h1
  obtain ⟨c30, e1⟩ : ∃ z, z = c29 ++ [(.inl 175 : RC)] := ⟨_, rfl⟩
  have hf := lt1_n e1 hf
  have nc30 : c30.length = c29.length + 1 := by rw [e1]; simp
  obtain ⟨c31, h1, hf⟩ := bs hf
  have nc31 := ptR_len h1
  obtain ⟨c32, e1⟩ : ∃ z, z = c31 ++ [(.inl 175 : RC)] := ⟨_, rfl⟩
  have hf := lt1_n e1 hf
  have nc32 : c32.length = c31.length + 1 := by rw [e1]; simp
  obtain ⟨c33, h1, hf⟩ := bs hf
  have nc33 := ptR_len h1
  obtain ⟨c34, e1⟩ : ∃ z, z = c33 ++ [(.inl 2800 : RC)] := ⟨_, rfl⟩
  have hf := lt1_n e1 hf
  have nc34 : c34.length = c33.length + 1 := by rw [e1]; simp
  obtain ⟨c35, h1, hf⟩ := bs hf
  have nc35 := ptR_len h1
  obtain ⟨c36, e1⟩ : ∃ z, z = c35 ++ [(.inl 7 : RC)] := ⟨_, rfl⟩
  have hf := lt1_n e1 hf
  have nc36 : c36.length = c35.length + 1 := by rw [e1]; simp
  obtain ⟨c37, h1, hf⟩ := bs hf
  have nc37 := ptR_len h1
  obtain ⟨c38, e1⟩ : ∃ z, z = c37 ++ [(.inl 16 : RC)] := ⟨_, rfl⟩
  have hf := lt1_n e1 hf
  have nc38 : c38.length = c37.length + 1 := by rw [e1]; simp
  obtain ⟨c39, h1, hf⟩ := bs hf
  have nc39 := ptR_len h1
  obtain ⟨c40, e1⟩ : ∃ z, z = c39 ++ [(.inl 16 : RC)] := ⟨_, rfl⟩
  have hf := lt1_n e1 hf
  have nc40 : c40.length = c39.length + 1 := by rw [e1]; simp
  obtain ⟨c41, h1, hf⟩ := bs hf
  have nc41 := ptR_len h1
  obtain ⟨c42, e1⟩ : ∃ z, z = c41 ++ [(.inl 48 : RC)] := ⟨_, rfl⟩
  have hf := lt1_n e1 hf
  have nc42 : c42.length = c41.length + 1 := by rw [e1]; simp
  obtain ⟨c43, h1, hf⟩ := bs hf
  have nc43 := ptR_len h1
  obtain ⟨c44, e1⟩ : ∃ z, z = c43 ++ [(.inl 48 : RC)] := ⟨_, rfl⟩
  have hf := lt1_n e1 hf
  have nc44 : c44.length = c43.length + 1 := by rw [e1]; simp
  obtain ⟨c45, h1, hf⟩ := bs hf
  have nc45 := ptR_len h1
  obtain ⟨c46, e1⟩ : ∃ z, z = c45 ++ [(.inl 4752 : RC)] := ⟨_, rfl⟩
  have hf := lt1_n e1 hf
  have nc46 : c46.length = c45.length + 1 := by rw [e1]; simp
  obtain ⟨c47, h1, hf⟩ := bs hf
  have nc47 := ptR_len h1
  obtain ⟨c48, e1⟩ : ∃ z, z = c47 ++ [(.inl 8928 : RC)] := ⟨_, rfl⟩
  have hf := lt1_n e1 hf
  have nc48 : c48.length = c47.length + 1 := by rw [e1]; simp
  obtain ⟨c49, h1, hf⟩ := bs hf
  have nc49 := ptR_len h1
  obtain ⟨u0, h0, hf⟩ := bs hf
  obtain ⟨m50, h1, hf⟩ := bs hf
  obtain ⟨u0, h0, hf⟩ := bs hf
  obtain ⟨m51, h1, hf⟩ := bs hf
  cases hf
  omega
set_option maxHeartbeats 4000000 in
set_option maxRecDepth 100000 in
theorem kX12_init_ok {l : Launch} {E : Ev} {x0 : Nat} {cs cs' : List RC} {mm mm' : Mem} (hZ : Zr E cs' mm') (hf : kX12_init (eB E) x0 cs mm = some (cs', mm')) : CtN l yX12_init cX12_init 1 2 45 24 18841 E [.ref (eB E + x0)] cs mm cs' mm' := by
  refine Met.ofW (cc := cX12_init) (maxL := 1) (ret := none) (by decide) rfl ?_
  intro p e s m args below meth c s₁ B hml hv
  obtain ⟨rfl, X, hS, hr, hlocks, hin, hz, hsz⟩ := am_inN B hv rfl
  refine am_entry (Nat.le_of_ble_eq_true rfl) (fun ls hl => ?_)
  have hl : lv_has ls 1 [(0, .ref (eB E + x0))] := hl
  have hx := X.1
  have hb := X.2.1
  unfold kX12_init at hf
  refine lv_aload_n hx hb dX12_init_0 rfl (lv_at hl 0 rfl) ?_
  refine am_obj X (hml.trans hl.1.symm) (inBi 1344 (by decide +kernel)) (inBi 127 (by decide +kernel)) (inB (List.mem_of_getElem? (i := 128) rfl) rfl) dX12_init_1 (Nat.le_of_ble_eq_true rfl) (Nat.le_of_ble_eq_true rfl) ?_
  refine lv_aload_n hx hb dX12_init_4 rfl (lv_at hl 0 rfl) ?_
  refine lv_iconst (v := 2) hx hb dX12_init_5 (by decide) ?_
  refine am_nI (N' := 2) X hS hz (by omega) (inBi 157 (by decide +kernel)) (by decide) (by decide) (Nat.le_of_ble_eq_true rfl) (Nat.le_of_ble_eq_true rfl) (Nat.le_of_ble_eq_true rfl) dX12_init_6 (fun H hS => ?_)
  obtain ⟨c1, e1⟩ : ∃ z, z = cs ++ [(.inl 2 : RC)] := ⟨_, rfl⟩
  have hf := lt1_n e1 hf
  have nc1 : c1.length = cs.length + 1 := by rw [e1]; simp
  rw [← e1] at hS
  have hz := hz.le (cs' := c1) (by omega)
  have X := X.to c1
  obtain ⟨c2, h1, hf⟩ := bs hf
  have nc2 := ptR_len h1
  refine am_ptR X hS fg_X12_7 rfl hin h1 dX12_init_8 (fun H locs hS => ?_)
  have hz := hz.le (cs' := c2) (by omega)
  have X := X.to c2
  refine lv_aload_n hx hb dX12_init_11 rfl (lv_at hl 0 rfl) ?_
  refine lv_iconst (v := -1) hx hb dX12_init_12 (by decide) ?_
  obtain ⟨m3, h1, hf⟩ := bs hf
  have hz := hz.put h1
  refine am_pi X hS fp_X12_17 rfl h1 dX12_init_13 (fun H locs hS => ?_)
  refine lv_aload_n hx hb dX12_init_16 rfl (lv_at hl 0 rfl) ?_
  refine lv_sipush (v := 600) hx hb dX12_init_17 (by decide) ?_
  refine am_nI (N' := 600) X hS hz (by omega) (inBi 157 (by decide +kernel)) (by decide) (by decide) (Nat.le_of_ble_eq_true rfl) (Nat.le_of_ble_eq_true rfl) (Nat.le_of_ble_eq_true rfl) dX12_init_20 (fun H hS => ?_)
  obtain ⟨c4, e1⟩ : ∃ z, z = c2 ++ [(.inl 600 : RC)] := ⟨_, rfl⟩
  have hf := lt1_n e1 hf
  have nc4 : c4.length = c2.length + 1 := by rw [e1]; simp
  rw [← e1] at hS
  have hz := hz.le (cs' := c4) (by omega)
  have X := X.to c4
  obtain ⟨c5, h1, hf⟩ := bs hf
  have nc5 := ptR_len h1
  refine am_ptR X hS fg_X12_20 rfl hin h1 dX12_init_22 (fun H locs hS => ?_)
  have hz := hz.le (cs' := c5) (by omega)
  have X := X.to c5
  refine lv_aload_n hx hb dX12_init_25 rfl (lv_at hl 0 rfl) ?_
  refine lv_bipush (v := 42) hx hb dX12_init_26 (by decide) ?_
  refine am_nI (N' := 42) X hS hz (by omega) (inBi 157 (by decide +kernel)) (by decide) (by decide) (Nat.le_of_ble_eq_true rfl) (Nat.le_of_ble_eq_true rfl) (Nat.le_of_ble_eq_true rfl) dX12_init_28 (fun H hS => ?_)
  obtain ⟨c6, e1⟩ : ∃ z, z = c5 ++ [(.inl 42 : RC)] := ⟨_, rfl⟩
  have hf := lt1_n e1 hf
  have nc6 : c6.length = c5.length + 1 := by rw [e1]; simp
  rw [← e1] at hS
  have hz := hz.le (cs' := c6) (by omega)
  have X := X.to c6
  obtain ⟨c7, h1, hf⟩ := bs hf
  have nc7 := ptR_len h1
  refine am_ptR X hS fg_X12_23 rfl hin h1 dX12_init_30 (fun H locs hS => ?_)
  have hz := hz.le (cs' := c7) (by omega)
  have X := X.to c7
  refine lv_aload_n hx hb dX12_init_33 rfl (lv_at hl 0 rfl) ?_
  refine lv_bipush (v := 16) hx hb dX12_init_34 (by decide) ?_
  refine am_nI (N' := 16) X hS hz (by omega) (inBi 157 (by decide +kernel)) (by decide) (by decide) (Nat.le_of_ble_eq_true rfl) (Nat.le_of_ble_eq_true rfl) (Nat.le_of_ble_eq_true rfl) dX12_init_36 (fun H hS => ?_)
  obtain ⟨c8, e1⟩ : ∃ z, z = c7 ++ [(.inl 16 : RC)] := ⟨_, rfl⟩
  have hf := lt1_n e1 hf
  have nc8 : c8.length = c7.length + 1 := by rw [e1]; simp
  rw [← e1] at hS
  have hz := hz.le (cs' := c8) (by omega)
  have X := X.to c8
  obtain ⟨c9, h1, hf⟩ := bs hf
  have nc9 := ptR_len h1
  refine am_ptR X hS fg_X12_26 rfl hin h1 dX12_init_38 (fun H locs hS => ?_)
  have hz := hz.le (cs' := c9) (by omega)
  have X := X.to c9
  refine lv_aload_n hx hb dX12_init_41 rfl (lv_at hl 0 rfl) ?_
  refine lv_bipush (v := 42) hx hb dX12_init_42 (by decide) ?_
  refine am_nI (N' := 42) X hS hz (by omega) (inBi 157 (by decide +kernel)) (by decide) (by decide) (Nat.le_of_ble_eq_true rfl) (Nat.le_of_ble_eq_true rfl) (Nat.le_of_ble_eq_true rfl) dX12_init_44 (fun H hS => ?_)
  obtain ⟨c10, e1⟩ : ∃ z, z = c9 ++ [(.inl 42 : RC)] := ⟨_, rfl⟩
  have hf := lt1_n e1 hf
  have nc10 : c10.length = c9.length + 1 := by rw [e1]; simp
  rw [← e1] at hS
  have hz := hz.le (cs' := c10) (by omega)
  have X := X.to c10
  obtain ⟨c11, h1, hf⟩ := bs hf
  have nc11 := ptR_len h1
  refine am_ptR X hS fg_X12_29 rfl hin h1 dX12_init_46 (fun H locs hS => ?_)
  have hz := hz.le (cs' := c11) (by omega)
  have X := X.to c11
  refine lv_aload_n hx hb dX12_init_49 rfl (lv_at hl 0 rfl) ?_
  refine lv_bipush (v := 16) hx hb dX12_init_50 (by decide) ?_
  refine am_nI (N' := 16) X hS hz (by omega) (inBi 157 (by decide +kernel)) (by decide) (by decide) (Nat.le_of_ble_eq_true rfl) (Nat.le_of_ble_eq_true rfl) (Nat.le_of_ble_eq_true rfl) dX12_init_52 (fun H hS => ?_)
  obtain ⟨c12, e1⟩ : ∃ z, z = c11 ++ [(.inl 16 : RC)] := ⟨_, rfl⟩
  have hf := lt1_n e1 hf
  have nc12 : c12.length = c11.length + 1 := by rw [e1]; simp
  rw [← e1] at hS
  have hz := hz.le (cs' := c12) (by omega)
  have X := X.to c12
  obtain ⟨c13, h1, hf⟩ := bs hf
  have nc13 := ptR_len h1
  refine am_ptR X hS fg_X12_32 rfl hin h1 dX12_init_54 (fun H locs hS => ?_)
  have hz := hz.le (cs' := c13) (by omega)
  have X := X.to c13
  refine lv_aload_n hx hb dX12_init_57 rfl (lv_at hl 0 rfl) ?_
  refine lv_sipush (v := 150) hx hb dX12_init_58 (by decide) ?_
  refine am_nI (N' := 150) X hS hz (by omega) (inBi 157 (by decide +kernel)) (by decide) (by decide) (Nat.le_of_ble_eq_true rfl) (Nat.le_of_ble_eq_true rfl) (Nat.le_of_ble_eq_true rfl) dX12_init_61 (fun H hS => ?_)
  obtain ⟨c14, e1⟩ : ∃ z, z = c13 ++ [(.inl 150 : RC)] := ⟨_, rfl⟩
  have hf := lt1_n e1 hf
  have nc14 : c14.length = c13.length + 1 := by rw [e1]; simp
  rw [← e1] at hS
  have hz := hz.le (cs' := c14) (by omega)
  have X := X.to c14
  obtain ⟨c15, h1, hf⟩ := bs hf
  have nc15 := ptR_len h1
  refine am_ptR X hS fg_X12_35 rfl hin h1 dX12_init_63 (fun H locs hS => ?_)
  have hz := hz.le (cs' := c15) (by omega)
  have X := X.to c15
  refine lv_aload_n hx hb dX12_init_66 rfl (lv_at hl 0 rfl) ?_
  refine lv_sipush (v := 150) hx hb dX12_init_67 (by decide) ?_
  refine am_nI (N' := 150) X hS hz (by omega) (inBi 157 (by decide +kernel)) (by decide) (by decide) (Nat.le_of_ble_eq_true rfl) (Nat.le_of_ble_eq_true rfl) (Nat.le_of_ble_eq_true rfl) dX12_init_70 (fun H hS => ?_)
  obtain ⟨c16, e1⟩ : ∃ z, z = c15 ++ [(.inl 150 : RC)] := ⟨_, rfl⟩
  have hf := lt1_n e1 hf
  have nc16 : c16.length = c15.length + 1 := by rw [e1]; simp
  rw [← e1] at hS
  have hz := hz.le (cs' := c16) (by omega)
  have X := X.to c16
  obtain ⟨c17, h1, hf⟩ := bs hf
  have nc17 := ptR_len h1
  refine am_ptR X hS fg_X12_38 rfl hin h1 dX12_init_72 (fun H locs hS => ?_)
  have hz := hz.le (cs' := c17) (by omega)
  have X := X.to c17
  refine lv_aload_n hx hb dX12_init_75 rfl (lv_at hl 0 rfl) ?_
  refine lv_sipush (v := 150) hx hb dX12_init_76 (by decide) ?_
  refine am_nI (N' := 150) X hS hz (by omega) (inBi 157 (by decide +kernel)) (by decide) (by decide) (Nat.le_of_ble_eq_true rfl) (Nat.le_of_ble_eq_true rfl) (Nat.le_of_ble_eq_true rfl) dX12_init_79 (fun H hS => ?_)
  obtain ⟨c18, e1⟩ : ∃ z, z = c17 ++ [(.inl 150 : RC)] := ⟨_, rfl⟩
  have hf := lt1_n e1 hf
  have nc18 : c18.length = c17.length + 1 := by rw [e1]; simp
  rw [← e1] at hS
  have hz := hz.le (cs' := c18) (by omega)
  have X := X.to c18
  obtain ⟨c19, h1, hf⟩ := bs hf
  have nc19 := ptR_len h1
  refine am_ptR X hS fg_X12_41 rfl hin h1 dX12_init_81 (fun H locs hS => ?_)
  have hz := hz.le (cs' := c19) (by omega)
  have X := X.to c19
  refine lv_aload_n hx hb dX12_init_84 rfl (lv_at hl 0 rfl) ?_
  refine lv_sipush (v := 150) hx hb dX12_init_85 (by decide) ?_
  refine am_nI (N' := 150) X hS hz (by omega) (inBi 157 (by decide +kernel)) (by decide) (by decide) (Nat.le_of_ble_eq_true rfl) (Nat.le_of_ble_eq_true rfl) (Nat.le_of_ble_eq_true rfl) dX12_init_88 (fun H hS => ?_)
  obtain ⟨c20, e1⟩ : ∃ z, z = c19 ++ [(.inl 150 : RC)] := ⟨_, rfl⟩
  have hf := lt1_n e1 hf
  have nc20 : c20.length = c19.length + 1 := by rw [e1]; simp
  rw [← e1] at hS
  have hz := hz.le (cs' := c20) (by omega)
  have X := X.to c20
  obtain ⟨c21, h1, hf⟩ := bs hf
  have nc21 := ptR_len h1
  refine am_ptR X hS fg_X12_44 rfl hin h1 dX12_init_90 (fun H locs hS => ?_)
  have hz := hz.le (cs' := c21) (by omega)
  have X := X.to c21
  refine lv_aload_n hx hb dX12_init_93 rfl (lv_at hl 0 rfl) ?_
  refine lv_sipush (v := 150) hx hb dX12_init_94 (by decide) ?_
  refine am_nI (N' := 150) X hS hz (by omega) (inBi 157 (by decide +kernel)) (by decide) (by decide) (Nat.le_of_ble_eq_true rfl) (Nat.le_of_ble_eq_true rfl) (Nat.le_of_ble_eq_true rfl) dX12_init_97 (fun H hS => ?_)
  obtain ⟨c22, e1⟩ : ∃ z, z = c21 ++ [(.inl 150 : RC)] := ⟨_, rfl⟩
  have hf := lt1_n e1 hf
  have nc22 : c22.length = c21.length + 1 := by rw [e1]; simp
  rw [← e1] at hS
  have hz := hz.le (cs' := c22) (by omega)
  have X := X.to c22
  obtain ⟨c23, h1, hf⟩ := bs hf
  have nc23 := ptR_len h1
  refine am_ptR X hS fg_X12_47 rfl hin h1 dX12_init_99 (fun H locs hS => ?_)
  have hz := hz.le (cs' := c23) (by omega)
  have X := X.to c23
  refine lv_aload_n hx hb dX12_init_102 rfl (lv_at hl 0 rfl) ?_
  refine lv_bipush (v := 8) hx hb dX12_init_103 (by decide) ?_
  refine am_nI (N' := 8) X hS hz (by omega) (inBi 157 (by decide +kernel)) (by decide) (by decide) (Nat.le_of_ble_eq_true rfl) (Nat.le_of_ble_eq_true rfl) (Nat.le_of_ble_eq_true rfl) dX12_init_105 (fun H hS => ?_)
  obtain ⟨c24, e1⟩ : ∃ z, z = c23 ++ [(.inl 8 : RC)] := ⟨_, rfl⟩
  have hf := lt1_n e1 hf
  have nc24 : c24.length = c23.length + 1 := by rw [e1]; simp
  rw [← e1] at hS
  have hz := hz.le (cs' := c24) (by omega)
  have X := X.to c24
  obtain ⟨c25, h1, hf⟩ := bs hf
  have nc25 := ptR_len h1
  refine am_ptR X hS fg_X12_50 rfl hin h1 dX12_init_107 (fun H locs hS => ?_)
  have hz := hz.le (cs' := c25) (by omega)
  have X := X.to c25
  refine lv_aload_n hx hb dX12_init_110 rfl (lv_at hl 0 rfl) ?_
  refine lv_sipush (v := 200) hx hb dX12_init_111 (by decide) ?_
  refine am_nI (N' := 200) X hS hz (by omega) (inBi 157 (by decide +kernel)) (by decide) (by decide) (Nat.le_of_ble_eq_true rfl) (Nat.le_of_ble_eq_true rfl) (Nat.le_of_ble_eq_true rfl) dX12_init_114 (fun H hS => ?_)
  obtain ⟨c26, e1⟩ : ∃ z, z = c25 ++ [(.inl 200 : RC)] := ⟨_, rfl⟩
  have hf := lt1_n e1 hf
  have nc26 : c26.length = c25.length + 1 := by rw [e1]; simp
  rw [← e1] at hS
  have hz := hz.le (cs' := c26) (by omega)
  have X := X.to c26
  obtain ⟨c27, h1, hf⟩ := bs hf
  have nc27 := ptR_len h1
  refine am_ptR X hS fg_X12_53 rfl hin h1 dX12_init_116 (fun H locs hS => ?_)
  have hz := hz.le (cs' := c27) (by omega)
  have X := X.to c27
  refine lv_aload_n hx hb dX12_init_119 rfl (lv_at hl 0 rfl) ?_
  refine lv_sipush (v := 200) hx hb dX12_init_120 (by decide) ?_
  refine am_nI (N' := 200) X hS hz (by omega) (inBi 157 (by decide +kernel)) (by decide) (by decide) (Nat.le_of_ble_eq_true rfl) (Nat.le_of_ble_eq_true rfl) (Nat.le_of_ble_eq_true rfl) dX12_init_123 (fun H hS => ?_)
  obtain ⟨c28, e1⟩ : ∃ z, z = c27 ++ [(.inl 200 : RC)] := ⟨_, rfl⟩
  have hf := lt1_n e1 hf
  have nc28 : c28.length = c27.length + 1 := by rw [e1]; simp
  rw [← e1] at hS
  have hz := hz.le (cs' := c28) (by omega)
  have X := X.to c28
  obtain ⟨c29, h1, hf⟩ := bs hf
  have nc29 := ptR_len h1
  refine am_ptR X hS fg_X12_56 rfl hin h1 dX12_init_125 (fun H locs hS => ?_)
  have hz := hz.le (cs' := c29) (by omega)
  have X := X.to c29
  refine lv_aload_n hx hb dX12_init_128 rfl (lv_at hl 0 rfl) ?_
  refine lv_sipush (v := 175) hx hb dX12_init_129 (by decide) ?_
  refine am_nI (N' := 175) X hS hz (by omega) (inBi 157 (by decide +kernel)) (by decide) (by decide) (Nat.le_of_ble_eq_true rfl) (Nat.le_of_ble_eq_true rfl) (Nat.le_of_ble_eq_true rfl) dX12_init_132 (fun H hS => ?_)
  obtain ⟨c30, e1⟩ : ∃ z, z = c29 ++ [(.inl 175 : RC)] := ⟨_, rfl⟩
  have hf := lt1_n e1 hf
  have nc30 : c30.length = c29.length + 1 := by rw [e1]; simp
  rw [← e1] at hS
  have hz := hz.le (cs' := c30) (by omega)
  have X := X.to c30
  obtain ⟨c31, h1, hf⟩ := bs hf
  have nc31 := ptR_len h1
  refine am_ptR X hS fg_X12_59 rfl hin h1 dX12_init_134 (fun H locs hS => ?_)
  have hz := hz.le (cs' := c31) (by omega)
  have X := X.to c31
  refine lv_aload_n hx hb dX12_init_137 rfl (lv_at hl 0 rfl) ?_
  refine lv_sipush (v := 175) hx hb dX12_init_138 (by decide) ?_
  refine am_nI (N' := 175) X hS hz (by omega) (inBi 157 (by decide +kernel)) (by decide) (by decide) (Nat.le_of_ble_eq_true rfl) (Nat.le_of_ble_eq_true rfl) (Nat.le_of_ble_eq_true rfl) dX12_init_141 (fun H hS => ?_)
  obtain ⟨c32, e1⟩ : ∃ z, z = c31 ++ [(.inl 175 : RC)] := ⟨_, rfl⟩
  have hf := lt1_n e1 hf
  have nc32 : c32.length = c31.length + 1 := by rw [e1]; simp
  rw [← e1] at hS
  have hz := hz.le (cs' := c32) (by omega)
  have X := X.to c32
  obtain ⟨c33, h1, hf⟩ := bs hf
  have nc33 := ptR_len h1
  refine am_ptR X hS fg_X12_62 rfl hin h1 dX12_init_143 (fun H locs hS => ?_)
  have hz := hz.le (cs' := c33) (by omega)
  have X := X.to c33
  refine lv_aload_n hx hb dX12_init_146 rfl (lv_at hl 0 rfl) ?_
  refine lv_sipush (v := 2800) hx hb dX12_init_147 (by decide) ?_
  refine am_nI (N' := 2800) X hS hz (by omega) (inBi 157 (by decide +kernel)) (by decide) (by decide) (Nat.le_of_ble_eq_true rfl) (Nat.le_of_ble_eq_true rfl) (Nat.le_of_ble_eq_true rfl) dX12_init_150 (fun H hS => ?_)
  obtain ⟨c34, e1⟩ : ∃ z, z = c33 ++ [(.inl 2800 : RC)] := ⟨_, rfl⟩
  have hf := lt1_n e1 hf
  have nc34 : c34.length = c33.length + 1 := by rw [e1]; simp
  rw [← e1] at hS
  have hz := hz.le (cs' := c34) (by omega)
  have X := X.to c34
  obtain ⟨c35, h1, hf⟩ := bs hf
  have nc35 := ptR_len h1
  refine am_ptR X hS fg_X12_65 rfl hin h1 dX12_init_152 (fun H locs hS => ?_)
  have hz := hz.le (cs' := c35) (by omega)
  have X := X.to c35
  refine lv_aload_n hx hb dX12_init_155 rfl (lv_at hl 0 rfl) ?_
  refine lv_bipush (v := 7) hx hb dX12_init_156 (by decide) ?_
  refine am_nI (N' := 7) X hS hz (by omega) (inBi 157 (by decide +kernel)) (by decide) (by decide) (Nat.le_of_ble_eq_true rfl) (Nat.le_of_ble_eq_true rfl) (Nat.le_of_ble_eq_true rfl) dX12_init_158 (fun H hS => ?_)
  obtain ⟨c36, e1⟩ : ∃ z, z = c35 ++ [(.inl 7 : RC)] := ⟨_, rfl⟩
  have hf := lt1_n e1 hf
  have nc36 : c36.length = c35.length + 1 := by rw [e1]; simp
  rw [← e1] at hS
  have hz := hz.le (cs' := c36) (by omega)
  have X := X.to c36
  obtain ⟨c37, h1, hf⟩ := bs hf
  have nc37 := ptR_len h1
  refine am_ptR X hS fg_X12_68 rfl hin h1 dX12_init_160 (fun H locs hS => ?_)
  have hz := hz.le (cs' := c37) (by omega)
  have X := X.to c37
  refine lv_aload_n hx hb dX12_init_163 rfl (lv_at hl 0 rfl) ?_
  refine lv_bipush (v := 16) hx hb dX12_init_164 (by decide) ?_
  refine am_nI (N' := 16) X hS hz (by omega) (inBi 157 (by decide +kernel)) (by decide) (by decide) (Nat.le_of_ble_eq_true rfl) (Nat.le_of_ble_eq_true rfl) (Nat.le_of_ble_eq_true rfl) dX12_init_166 (fun H hS => ?_)
  obtain ⟨c38, e1⟩ : ∃ z, z = c37 ++ [(.inl 16 : RC)] := ⟨_, rfl⟩
  have hf := lt1_n e1 hf
  have nc38 : c38.length = c37.length + 1 := by rw [e1]; simp
  rw [← e1] at hS
  have hz := hz.le (cs' := c38) (by omega)
  have X := X.to c38
  obtain ⟨c39, h1, hf⟩ := bs hf
  have nc39 := ptR_len h1
  refine am_ptR X hS fg_X12_71 rfl hin h1 dX12_init_168 (fun H locs hS => ?_)
  have hz := hz.le (cs' := c39) (by omega)
  have X := X.to c39
  refine lv_aload_n hx hb dX12_init_171 rfl (lv_at hl 0 rfl) ?_
  refine lv_bipush (v := 16) hx hb dX12_init_172 (by decide) ?_
  refine am_nI (N' := 16) X hS hz (by omega) (inBi 157 (by decide +kernel)) (by decide) (by decide) (Nat.le_of_ble_eq_true rfl) (Nat.le_of_ble_eq_true rfl) (Nat.le_of_ble_eq_true rfl) dX12_init_174 (fun H hS => ?_)
  obtain ⟨c40, e1⟩ : ∃ z, z = c39 ++ [(.inl 16 : RC)] := ⟨_, rfl⟩
  have hf := lt1_n e1 hf
  have nc40 : c40.length = c39.length + 1 := by rw [e1]; simp
  rw [← e1] at hS
  have hz := hz.le (cs' := c40) (by omega)
  have X := X.to c40
  obtain ⟨c41, h1, hf⟩ := bs hf
  have nc41 := ptR_len h1
  refine am_ptR X hS fg_X12_74 rfl hin h1 dX12_init_176 (fun H locs hS => ?_)
  have hz := hz.le (cs' := c41) (by omega)
  have X := X.to c41
  refine lv_aload_n hx hb dX12_init_179 rfl (lv_at hl 0 rfl) ?_
  refine lv_bipush (v := 48) hx hb dX12_init_180 (by decide) ?_
  refine am_nI (N' := 48) X hS hz (by omega) (inBi 157 (by decide +kernel)) (by decide) (by decide) (Nat.le_of_ble_eq_true rfl) (Nat.le_of_ble_eq_true rfl) (Nat.le_of_ble_eq_true rfl) dX12_init_182 (fun H hS => ?_)
  obtain ⟨c42, e1⟩ : ∃ z, z = c41 ++ [(.inl 48 : RC)] := ⟨_, rfl⟩
  have hf := lt1_n e1 hf
  have nc42 : c42.length = c41.length + 1 := by rw [e1]; simp
  rw [← e1] at hS
  have hz := hz.le (cs' := c42) (by omega)
  have X := X.to c42
  obtain ⟨c43, h1, hf⟩ := bs hf
  have nc43 := ptR_len h1
  refine am_ptR X hS fg_X12_77 rfl hin h1 dX12_init_184 (fun H locs hS => ?_)
  have hz := hz.le (cs' := c43) (by omega)
  have X := X.to c43
  refine lv_aload_n hx hb dX12_init_187 rfl (lv_at hl 0 rfl) ?_
  refine lv_bipush (v := 48) hx hb dX12_init_188 (by decide) ?_
  refine am_nI (N' := 48) X hS hz (by omega) (inBi 157 (by decide +kernel)) (by decide) (by decide) (Nat.le_of_ble_eq_true rfl) (Nat.le_of_ble_eq_true rfl) (Nat.le_of_ble_eq_true rfl) dX12_init_190 (fun H hS => ?_)
  obtain ⟨c44, e1⟩ : ∃ z, z = c43 ++ [(.inl 48 : RC)] := ⟨_, rfl⟩
  have hf := lt1_n e1 hf
  have nc44 : c44.length = c43.length + 1 := by rw [e1]; simp
  rw [← e1] at hS
  have hz := hz.le (cs' := c44) (by omega)
  have X := X.to c44
  obtain ⟨c45, h1, hf⟩ := bs hf
  have nc45 := ptR_len h1
  refine am_ptR X hS fg_X12_80 rfl hin h1 dX12_init_192 (fun H locs hS => ?_)
  have hz := hz.le (cs' := c45) (by omega)
  have X := X.to c45
  refine lv_aload_n hx hb dX12_init_195 rfl (lv_at hl 0 rfl) ?_
  refine lv_sipush (v := 4752) hx hb dX12_init_196 (by decide) ?_
  refine am_nI (N' := 4752) X hS hz (by omega) (inBi 157 (by decide +kernel)) (by decide) (by decide) (Nat.le_of_ble_eq_true rfl) (Nat.le_of_ble_eq_true rfl) (Nat.le_of_ble_eq_true rfl) dX12_init_199 (fun H hS => ?_)
  obtain ⟨c46, e1⟩ : ∃ z, z = c45 ++ [(.inl 4752 : RC)] := ⟨_, rfl⟩
  have hf := lt1_n e1 hf
  have nc46 : c46.length = c45.length + 1 := by rw [e1]; simp
  rw [← e1] at hS
  have hz := hz.le (cs' := c46) (by omega)
  have X := X.to c46
  obtain ⟨c47, h1, hf⟩ := bs hf
  have nc47 := ptR_len h1
  refine am_ptR X hS fg_X12_83 rfl hin h1 dX12_init_201 (fun H locs hS => ?_)
  have hz := hz.le (cs' := c47) (by omega)
  have X := X.to c47
  refine lv_aload_n hx hb dX12_init_204 rfl (lv_at hl 0 rfl) ?_
  refine lv_sipush (v := 8928) hx hb dX12_init_205 (by decide) ?_
  refine am_nI (N' := 8928) X hS hz (by omega) (inBi 157 (by decide +kernel)) (by decide) (by decide) (Nat.le_of_ble_eq_true rfl) (Nat.le_of_ble_eq_true rfl) (Nat.le_of_ble_eq_true rfl) dX12_init_208 (fun H hS => ?_)
  obtain ⟨c48, e1⟩ : ∃ z, z = c47 ++ [(.inl 8928 : RC)] := ⟨_, rfl⟩
  have hf := lt1_n e1 hf
  have nc48 : c48.length = c47.length + 1 := by rw [e1]; simp
  rw [← e1] at hS
  have hz := hz.le (cs' := c48) (by omega)
  have X := X.to c48
  obtain ⟨c49, h1, hf⟩ := bs hf
  have nc49 := ptR_len h1
  refine am_ptR X hS fg_X12_86 rfl hin h1 dX12_init_210 (fun H locs hS => ?_)
  have hz := hz.le (cs' := c49) (by omega)
  have X := X.to c49
  refine lv_aload_n hx hb dX12_init_213 rfl (lv_at hl 0 rfl) ?_
  obtain ⟨u0, h0, hf⟩ := bs hf
  obtain ⟨_, hrc⟩ := isO_n h0
  obtain ⟨m50, h1, hf⟩ := bs hf
  refine am_endv hS (am_runV (E := mkR E c49) (As := []) X (hml.trans hl.1.symm) hS (cX12_clears_ok (l := l) (E := mkR E c49) h1) mv_X12_89 hrc rfl ⟨Nat.le_of_ble_eq_true rfl, Nat.le_of_ble_eq_true rfl⟩ ⟨Nat.le_of_ble_eq_true rfl, Nat.le_of_ble_eq_true rfl⟩ rfl rfl (Nat.le_of_ble_eq_true rfl) dX12_init_214) (fun H locs hS => ?_)
  refine lv_aload_n hx hb dX12_init_217 rfl (lv_at hl 0 rfl) ?_
  obtain ⟨u0, h0, hf⟩ := bs hf
  obtain ⟨_, hrc⟩ := isO_n h0
  obtain ⟨m51, h1, hf⟩ := bs hf
  refine am_endv hS (am_runV (E := mkR E c49) (As := []) X (hml.trans hl.1.symm) hS (cX12_sets_ok (l := l) (E := mkR E c49) h1) mv_X12_92 hrc rfl ⟨Nat.le_of_ble_eq_true rfl, Nat.le_of_ble_eq_true rfl⟩ ⟨Nat.le_of_ble_eq_true rfl, Nat.le_of_ble_eq_true rfl⟩ rfl rfl (Nat.le_of_ble_eq_true rfl) dX12_init_218) (fun H locs hS => ?_)
  cases hf
  exact am_rvN X hS hZ hr dX12_init_221 hlocks

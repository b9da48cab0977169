theorem dX2_whiteBits_0 : decode cX2_whiteBits 0 = .ok (.iconst 0, 1) := by decide +kernel
theorem dX2_whiteBits_1 : decode cX2_whiteBits 1 = .ok (.istore_n 1, 1) := by decide +kernel
theorem dX2_whiteBits_2 : decode cX2_whiteBits 2 = .ok (.iconst 0, 1) := by decide +kernel
theorem dX2_whiteBits_3 : decode cX2_whiteBits 3 = .ok (.istore_n 2, 1) := by decide +kernel
theorem dX2_whiteBits_4 : decode cX2_whiteBits 4 = .ok (.iload_n 2, 1) := by decide +kernel
theorem dX2_whiteBits_5 : decode cX2_whiteBits 5 = .ok (.bipush 6, 2) := by decide +kernel
theorem dX2_whiteBits_7 : decode cX2_whiteBits 7 = .ok (.if_icmp .ge 25, 3) := by decide +kernel
theorem dX2_whiteBits_10 : decode cX2_whiteBits 10 = .ok (.aload_n 0, 1) := by decide +kernel
theorem dX2_whiteBits_11 : decode cX2_whiteBits 11 = .ok (.iconst 1, 1) := by decide +kernel
theorem dX2_whiteBits_12 : decode cX2_whiteBits 12 = .ok (.iload_n 2, 1) := by decide +kernel
theorem dX2_whiteBits_13 : decode cX2_whiteBits 13 = .ok (.ishl, 1) := by decide +kernel
theorem dX2_whiteBits_14 : decode cX2_whiteBits 14 = .ok (.invokevirtual 74, 3) := by decide +kernel
theorem dX2_whiteBits_17 : decode cX2_whiteBits 17 = .ok (.ifCond .eq 9, 3) := by decide +kernel
theorem dX2_whiteBits_20 : decode cX2_whiteBits 20 = .ok (.iload_n 1, 1) := by decide +kernel
theorem dX2_whiteBits_21 : decode cX2_whiteBits 21 = .ok (.iconst 1, 1) := by decide +kernel
theorem dX2_whiteBits_22 : decode cX2_whiteBits 22 = .ok (.iload_n 2, 1) := by decide +kernel
theorem dX2_whiteBits_23 : decode cX2_whiteBits 23 = .ok (.ishl, 1) := by decide +kernel
theorem dX2_whiteBits_24 : decode cX2_whiteBits 24 = .ok (.ior, 1) := by decide +kernel
theorem dX2_whiteBits_25 : decode cX2_whiteBits 25 = .ok (.istore_n 1, 1) := by decide +kernel
theorem dX2_whiteBits_26 : decode cX2_whiteBits 26 = .ok (.iinc 2 1, 3) := by decide +kernel
theorem dX2_whiteBits_29 : decode cX2_whiteBits 29 = .ok (.goto (-25), 3) := by decide +kernel
theorem dX2_whiteBits_32 : decode cX2_whiteBits 32 = .ok (.iload_n 1, 1) := by decide +kernel
theorem dX2_whiteBits_33 : decode cX2_whiteBits 33 = .ok (.ireturn, 1) := by decide +kernel
theorem dX2_giveBack_0 : decode cX2_giveBack 0 = .ok (.aload_n 0, 1) := by decide +kernel
theorem dX2_giveBack_1 : decode cX2_giveBack 1 = .ok (.getfield 21, 3) := by decide +kernel
theorem dX2_giveBack_4 : decode cX2_giveBack 4 = .ok (.iload_n 1, 1) := by decide +kernel
theorem dX2_giveBack_5 : decode cX2_giveBack 5 = .ok (.iaload, 1) := by decide +kernel
theorem dX2_giveBack_6 : decode cX2_giveBack 6 = .ok (.iload_n 2, 1) := by decide +kernel
theorem dX2_giveBack_7 : decode cX2_giveBack 7 = .ok (.if_icmp .ge 5, 3) := by decide +kernel
theorem dX2_giveBack_10 : decode cX2_giveBack 10 = .ok (.iconst 0, 1) := by decide +kernel
theorem dX2_giveBack_11 : decode cX2_giveBack 11 = .ok (.ireturn, 1) := by decide +kernel
theorem dX2_giveBack_12 : decode cX2_giveBack 12 = .ok (.aload_n 0, 1) := by decide +kernel
theorem dX2_giveBack_13 : decode cX2_giveBack 13 = .ok (.getfield 21, 3) := by decide +kernel
theorem dX2_giveBack_16 : decode cX2_giveBack 16 = .ok (.iload_n 1, 1) := by decide +kernel
theorem dX2_giveBack_17 : decode cX2_giveBack 17 = .ok (.dup2, 1) := by decide +kernel
theorem dX2_giveBack_18 : decode cX2_giveBack 18 = .ok (.iaload, 1) := by decide +kernel
theorem dX2_giveBack_19 : decode cX2_giveBack 19 = .ok (.iload_n 2, 1) := by decide +kernel
theorem dX2_giveBack_20 : decode cX2_giveBack 20 = .ok (.isub, 1) := by decide +kernel
theorem dX2_giveBack_21 : decode cX2_giveBack 21 = .ok (.iastore, 1) := by decide +kernel
theorem dX2_giveBack_22 : decode cX2_giveBack 22 = .ok (.aload_n 0, 1) := by decide +kernel
theorem dX2_giveBack_23 : decode cX2_giveBack 23 = .ok (.getfield 9, 3) := by decide +kernel
theorem dX2_giveBack_26 : decode cX2_giveBack 26 = .ok (.iload_n 1, 1) := by decide +kernel
theorem dX2_giveBack_27 : decode cX2_giveBack 27 = .ok (.dup2, 1) := by decide +kernel
theorem dX2_giveBack_28 : decode cX2_giveBack 28 = .ok (.iaload, 1) := by decide +kernel
theorem dX2_giveBack_29 : decode cX2_giveBack 29 = .ok (.iload_n 2, 1) := by decide +kernel
theorem dX2_giveBack_30 : decode cX2_giveBack 30 = .ok (.iadd, 1) := by decide +kernel
theorem dX2_giveBack_31 : decode cX2_giveBack 31 = .ok (.iastore, 1) := by decide +kernel
theorem dX2_giveBack_32 : decode cX2_giveBack 32 = .ok (.iconst 1, 1) := by decide +kernel
theorem dX2_giveBack_33 : decode cX2_giveBack 33 = .ok (.ireturn, 1) := by decide +kernel
theorem dX2_darkBits_0 : decode cX2_darkBits 0 = .ok (.iconst 0, 1) := by decide +kernel
theorem dX2_darkBits_1 : decode cX2_darkBits 1 = .ok (.istore_n 2, 1) := by decide +kernel
theorem dX2_darkBits_2 : decode cX2_darkBits 2 = .ok (.iconst 0, 1) := by decide +kernel
theorem dX2_darkBits_3 : decode cX2_darkBits 3 = .ok (.istore_n 3, 1) := by decide +kernel
theorem dX2_darkBits_4 : decode cX2_darkBits 4 = .ok (.iload_n 3, 1) := by decide +kernel
theorem dX2_darkBits_5 : decode cX2_darkBits 5 = .ok (.bipush 7, 2) := by decide +kernel
theorem dX2_darkBits_7 : decode cX2_darkBits 7 = .ok (.if_icmp .ge 43, 3) := by decide +kernel
theorem dX2_darkBits_10 : decode cX2_darkBits 10 = .ok (.iload_n 1, 1) := by decide +kernel
theorem dX2_darkBits_11 : decode cX2_darkBits 11 = .ok (.bipush 7, 2) := by decide +kernel
theorem dX2_darkBits_13 : decode cX2_darkBits 13 = .ok (.imul, 1) := by decide +kernel
theorem dX2_darkBits_14 : decode cX2_darkBits 14 = .ok (.iload_n 3, 1) := by decide +kernel
theorem dX2_darkBits_15 : decode cX2_darkBits 15 = .ok (.iadd, 1) := by decide +kernel
theorem dX2_darkBits_16 : decode cX2_darkBits 16 = .ok (.istore 4, 2) := by decide +kernel
theorem dX2_darkBits_18 : decode cX2_darkBits 18 = .ok (.aload_n 0, 1) := by decide +kernel
theorem dX2_darkBits_19 : decode cX2_darkBits 19 = .ok (.getfield 9, 3) := by decide +kernel
theorem dX2_darkBits_22 : decode cX2_darkBits 22 = .ok (.iload 4, 2) := by decide +kernel
theorem dX2_darkBits_24 : decode cX2_darkBits 24 = .ok (.iaload, 1) := by decide +kernel
theorem dX2_darkBits_25 : decode cX2_darkBits 25 = .ok (.ifCond .ne 19, 3) := by decide +kernel
theorem dX2_darkBits_28 : decode cX2_darkBits 28 = .ok (.aload_n 0, 1) := by decide +kernel
theorem dX2_darkBits_29 : decode cX2_darkBits 29 = .ok (.getfield 15, 3) := by decide +kernel
theorem dX2_darkBits_32 : decode cX2_darkBits 32 = .ok (.iload 4, 2) := by decide +kernel
theorem dX2_darkBits_34 : decode cX2_darkBits 34 = .ok (.iaload, 1) := by decide +kernel
theorem dX2_darkBits_35 : decode cX2_darkBits 35 = .ok (.ifCond .ne 9, 3) := by decide +kernel
theorem dX2_darkBits_38 : decode cX2_darkBits 38 = .ok (.iload_n 2, 1) := by decide +kernel
theorem dX2_darkBits_39 : decode cX2_darkBits 39 = .ok (.iconst 1, 1) := by decide +kernel
theorem dX2_darkBits_40 : decode cX2_darkBits 40 = .ok (.iload_n 3, 1) := by decide +kernel
theorem dX2_darkBits_41 : decode cX2_darkBits 41 = .ok (.ishl, 1) := by decide +kernel
theorem dX2_darkBits_42 : decode cX2_darkBits 42 = .ok (.ior, 1) := by decide +kernel
theorem dX2_darkBits_43 : decode cX2_darkBits 43 = .ok (.istore_n 2, 1) := by decide +kernel
theorem dX2_darkBits_44 : decode cX2_darkBits 44 = .ok (.iinc 3 1, 3) := by decide +kernel
theorem dX2_darkBits_47 : decode cX2_darkBits 47 = .ok (.goto (-43), 3) := by decide +kernel
theorem dX2_darkBits_50 : decode cX2_darkBits 50 = .ok (.iload_n 2, 1) := by decide +kernel
theorem dX2_darkBits_51 : decode cX2_darkBits 51 = .ok (.ireturn, 1) := by decide +kernel
theorem dX2_allWithin_0 : decode cX2_allWithin 0 = .ok (.aload_n 0, 1) := by decide +kernel
theorem dX2_allWithin_1 : decode cX2_allWithin 1 = .ok (.getfield 9, 3) := by decide +kernel
theorem dX2_allWithin_4 : decode cX2_allWithin 4 = .ok (.iload_n 1, 1) := by decide +kernel
theorem dX2_allWithin_5 : decode cX2_allWithin 5 = .ok (.bipush 7, 2) := by decide +kernel
theorem dX2_allWithin_7 : decode cX2_allWithin 7 = .ok (.imul, 1) := by decide +kernel
theorem dX2_allWithin_8 : decode cX2_allWithin 8 = .ok (.iload_n 1, 1) := by decide +kernel
theorem dX2_allWithin_9 : decode cX2_allWithin 9 = .ok (.bipush 7, 2) := by decide +kernel
theorem dX2_allWithin_11 : decode cX2_allWithin 11 = .ok (.imul, 1) := by decide +kernel
theorem dX2_allWithin_12 : decode cX2_allWithin 12 = .ok (.bipush 7, 2) := by decide +kernel
theorem dX2_allWithin_14 : decode cX2_allWithin 14 = .ok (.iadd, 1) := by decide +kernel
theorem dX2_allWithin_15 : decode cX2_allWithin 15 = .ok (.invokestatic 48, 3) := by decide +kernel
theorem dX2_allWithin_18 : decode cX2_allWithin 18 = .ok (.ireturn, 1) := by decide +kernel
theorem dJ7_fill_53178_0 : decode cJ7_fill_53178 0 = .ok (.iconst 0, 1) := by decide +kernel
theorem dJ7_fill_53178_1 : decode cJ7_fill_53178 1 = .ok (.istore_n 2, 1) := by decide +kernel
theorem dJ7_fill_53178_2 : decode cJ7_fill_53178 2 = .ok (.aload_n 0, 1) := by decide +kernel
theorem dJ7_fill_53178_3 : decode cJ7_fill_53178 3 = .ok (.arraylength, 1) := by decide +kernel
theorem dJ7_fill_53178_4 : decode cJ7_fill_53178 4 = .ok (.istore_n 3, 1) := by decide +kernel
theorem dJ7_fill_53178_5 : decode cJ7_fill_53178 5 = .ok (.iload_n 2, 1) := by decide +kernel
theorem dJ7_fill_53178_6 : decode cJ7_fill_53178 6 = .ok (.iload_n 3, 1) := by decide +kernel
theorem dJ7_fill_53178_7 : decode cJ7_fill_53178 7 = .ok (.if_icmp .ge 13, 3) := by decide +kernel
theorem dJ7_fill_53178_10 : decode cJ7_fill_53178 10 = .ok (.aload_n 0, 1) := by decide +kernel
theorem dJ7_fill_53178_11 : decode cJ7_fill_53178 11 = .ok (.iload_n 2, 1) := by decide +kernel
theorem dJ7_fill_53178_12 : decode cJ7_fill_53178 12 = .ok (.iload_n 1, 1) := by decide +kernel
theorem dJ7_fill_53178_13 : decode cJ7_fill_53178 13 = .ok (.iastore, 1) := by decide +kernel
theorem dJ7_fill_53178_14 : decode cJ7_fill_53178 14 = .ok (.iinc 2 1, 3) := by decide +kernel
theorem dJ7_fill_53178_17 : decode cJ7_fill_53178 17 = .ok (.goto (-12), 3) := by decide +kernel
theorem dJ7_fill_53178_20 : decode cJ7_fill_53178 20 = .ok (.return_, 1) := by decide +kernel
theorem dX2_wallAfter_0 : decode cX2_wallAfter 0 = .ok (.iconst 0, 1) := by decide +kernel
theorem dX2_wallAfter_1 : decode cX2_wallAfter 1 = .ok (.istore_n 2, 1) := by decide +kernel
theorem dX2_wallAfter_2 : decode cX2_wallAfter 2 = .ok (.iconst 0, 1) := by decide +kernel
theorem dX2_wallAfter_3 : decode cX2_wallAfter 3 = .ok (.istore_n 3, 1) := by decide +kernel
theorem dX2_wallAfter_4 : decode cX2_wallAfter 4 = .ok (.iload_n 3, 1) := by decide +kernel
theorem dX2_wallAfter_5 : decode cX2_wallAfter 5 = .ok (.bipush 42, 2) := by decide +kernel
theorem dX2_wallAfter_7 : decode cX2_wallAfter 7 = .ok (.if_icmp .ge 24, 3) := by decide +kernel
theorem dX2_wallAfter_10 : decode cX2_wallAfter 10 = .ok (.iload_n 2, 1) := by decide +kernel
theorem dX2_wallAfter_11 : decode cX2_wallAfter 11 = .ok (.iconst 0, 1) := by decide +kernel
theorem dX2_wallAfter_12 : decode cX2_wallAfter 12 = .ok (.aload_n 0, 1) := by decide +kernel
theorem dX2_wallAfter_13 : decode cX2_wallAfter 13 = .ok (.getfield 15, 3) := by decide +kernel
theorem dX2_wallAfter_16 : decode cX2_wallAfter 16 = .ok (.iload_n 3, 1) := by decide +kernel
theorem dX2_wallAfter_17 : decode cX2_wallAfter 17 = .ok (.iaload, 1) := by decide +kernel
theorem dX2_wallAfter_18 : decode cX2_wallAfter 18 = .ok (.iload_n 1, 1) := by decide +kernel
theorem dX2_wallAfter_19 : decode cX2_wallAfter 19 = .ok (.isub, 1) := by decide +kernel
theorem dX2_wallAfter_20 : decode cX2_wallAfter 20 = .ok (.invokestatic 65, 3) := by decide +kernel
theorem dX2_wallAfter_23 : decode cX2_wallAfter 23 = .ok (.iadd, 1) := by decide +kernel
theorem dX2_wallAfter_24 : decode cX2_wallAfter 24 = .ok (.istore_n 2, 1) := by decide +kernel
theorem dX2_wallAfter_25 : decode cX2_wallAfter 25 = .ok (.iinc 3 1, 3) := by decide +kernel
theorem dX2_wallAfter_28 : decode cX2_wallAfter 28 = .ok (.goto (-24), 3) := by decide +kernel
theorem dX2_wallAfter_31 : decode cX2_wallAfter 31 = .ok (.iload_n 2, 1) := by decide +kernel
theorem dX2_wallAfter_32 : decode cX2_wallAfter 32 = .ok (.ireturn, 1) := by decide +kernel
theorem dX2_copyFrom_0 : decode cX2_copyFrom 0 = .ok (.aload_n 1, 1) := by decide +kernel
theorem dX2_copyFrom_1 : decode cX2_copyFrom 1 = .ok (.getfield 9, 3) := by decide +kernel
theorem dX2_copyFrom_4 : decode cX2_copyFrom 4 = .ok (.iconst 0, 1) := by decide +kernel
theorem dX2_copyFrom_5 : decode cX2_copyFrom 5 = .ok (.aload_n 0, 1) := by decide +kernel
theorem dX2_copyFrom_6 : decode cX2_copyFrom 6 = .ok (.getfield 9, 3) := by decide +kernel
theorem dX2_copyFrom_9 : decode cX2_copyFrom 9 = .ok (.iconst 0, 1) := by decide +kernel
theorem dX2_copyFrom_10 : decode cX2_copyFrom 10 = .ok (.bipush 42, 2) := by decide +kernel
theorem dX2_copyFrom_12 : decode cX2_copyFrom 12 = .ok (.invokestatic 27, 3) := by decide +kernel
theorem dX2_copyFrom_15 : decode cX2_copyFrom 15 = .ok (.aload_n 1, 1) := by decide +kernel
theorem dX2_copyFrom_16 : decode cX2_copyFrom 16 = .ok (.getfield 15, 3) := by decide +kernel
theorem dX2_copyFrom_19 : decode cX2_copyFrom 19 = .ok (.iconst 0, 1) := by decide +kernel
theorem dX2_copyFrom_20 : decode cX2_copyFrom 20 = .ok (.aload_n 0, 1) := by decide +kernel
theorem dX2_copyFrom_21 : decode cX2_copyFrom 21 = .ok (.getfield 15, 3) := by decide +kernel
theorem dX2_copyFrom_24 : decode cX2_copyFrom 24 = .ok (.iconst 0, 1) := by decide +kernel
theorem dX2_copyFrom_25 : decode cX2_copyFrom 25 = .ok (.bipush 42, 2) := by decide +kernel
theorem dX2_copyFrom_27 : decode cX2_copyFrom 27 = .ok (.invokestatic 27, 3) := by decide +kernel
theorem dX2_copyFrom_30 : decode cX2_copyFrom 30 = .ok (.aload_n 1, 1) := by decide +kernel
theorem dX2_copyFrom_31 : decode cX2_copyFrom 31 = .ok (.getfield 18, 3) := by decide +kernel
theorem dX2_copyFrom_34 : decode cX2_copyFrom 34 = .ok (.iconst 0, 1) := by decide +kernel
theorem dX2_copyFrom_35 : decode cX2_copyFrom 35 = .ok (.aload_n 0, 1) := by decide +kernel
theorem dX2_copyFrom_36 : decode cX2_copyFrom 36 = .ok (.getfield 18, 3) := by decide +kernel
theorem dX2_copyFrom_39 : decode cX2_copyFrom 39 = .ok (.iconst 0, 1) := by decide +kernel
theorem dX2_copyFrom_40 : decode cX2_copyFrom 40 = .ok (.bipush 42, 2) := by decide +kernel
theorem dX2_copyFrom_42 : decode cX2_copyFrom 42 = .ok (.invokestatic 27, 3) := by decide +kernel
theorem dX2_copyFrom_45 : decode cX2_copyFrom 45 = .ok (.aload_n 1, 1) := by decide +kernel
theorem dX2_copyFrom_46 : decode cX2_copyFrom 46 = .ok (.getfield 21, 3) := by decide +kernel
theorem dX2_copyFrom_49 : decode cX2_copyFrom 49 = .ok (.iconst 0, 1) := by decide +kernel
theorem dX2_copyFrom_50 : decode cX2_copyFrom 50 = .ok (.aload_n 0, 1) := by decide +kernel
theorem dX2_copyFrom_51 : decode cX2_copyFrom 51 = .ok (.getfield 21, 3) := by decide +kernel
theorem dX2_copyFrom_54 : decode cX2_copyFrom 54 = .ok (.iconst 0, 1) := by decide +kernel
theorem dX2_copyFrom_55 : decode cX2_copyFrom 55 = .ok (.bipush 42, 2) := by decide +kernel
theorem dX2_copyFrom_57 : decode cX2_copyFrom 57 = .ok (.invokestatic 27, 3) := by decide +kernel
theorem dX2_copyFrom_60 : decode cX2_copyFrom 60 = .ok (.aload_n 1, 1) := by decide +kernel
theorem dX2_copyFrom_61 : decode cX2_copyFrom 61 = .ok (.getfield 24, 3) := by decide +kernel
theorem dX2_copyFrom_64 : decode cX2_copyFrom 64 = .ok (.iconst 0, 1) := by decide +kernel
theorem dX2_copyFrom_65 : decode cX2_copyFrom 65 = .ok (.aload_n 0, 1) := by decide +kernel
theorem dX2_copyFrom_66 : decode cX2_copyFrom 66 = .ok (.getfield 24, 3) := by decide +kernel
theorem dX2_copyFrom_69 : decode cX2_copyFrom 69 = .ok (.iconst 0, 1) := by decide +kernel
theorem dX2_copyFrom_70 : decode cX2_copyFrom 70 = .ok (.bipush 6, 2) := by decide +kernel
theorem dX2_copyFrom_72 : decode cX2_copyFrom 72 = .ok (.invokestatic 27, 3) := by decide +kernel
theorem dX2_copyFrom_75 : decode cX2_copyFrom 75 = .ok (.aload_n 0, 1) := by decide +kernel
theorem dX2_copyFrom_76 : decode cX2_copyFrom 76 = .ok (.aload_n 1, 1) := by decide +kernel
theorem dX2_copyFrom_77 : decode cX2_copyFrom 77 = .ok (.getfield 33, 3) := by decide +kernel
theorem dX2_copyFrom_80 : decode cX2_copyFrom 80 = .ok (.putfield 33, 3) := by decide +kernel
theorem dX2_copyFrom_83 : decode cX2_copyFrom 83 = .ok (.return_, 1) := by decide +kernel
theorem dX2_muchWithin_0 : decode cX2_muchWithin 0 = .ok (.aload_n 0, 1) := by decide +kernel
theorem dX2_muchWithin_1 : decode cX2_muchWithin 1 = .ok (.iload_n 1, 1) := by decide +kernel
theorem dX2_muchWithin_2 : decode cX2_muchWithin 2 = .ok (.sipush 1680, 3) := by decide +kernel
theorem dX2_muchWithin_5 : decode cX2_muchWithin 5 = .ok (.invokevirtual 52, 3) := by decide +kernel
theorem dX2_muchWithin_8 : decode cX2_muchWithin 8 = .ok (.ireturn, 1) := by decide +kernel
theorem dX2_open_0 : decode cX2_open 0 = .ok (.aload_n 1, 1) := by decide +kernel
theorem dX2_open_1 : decode cX2_open 1 = .ok (.getfield 37, 3) := by decide +kernel
theorem dX2_open_4 : decode cX2_open 4 = .ok (.iconst 0, 1) := by decide +kernel
theorem dX2_open_5 : decode cX2_open 5 = .ok (.aload_n 0, 1) := by decide +kernel
theorem dX2_open_6 : decode cX2_open 6 = .ok (.getfield 9, 3) := by decide +kernel
theorem dX2_open_9 : decode cX2_open 9 = .ok (.iconst 0, 1) := by decide +kernel
theorem dX2_open_10 : decode cX2_open 10 = .ok (.bipush 42, 2) := by decide +kernel
theorem dX2_open_12 : decode cX2_open 12 = .ok (.invokestatic 27, 3) := by decide +kernel
theorem dX2_open_15 : decode cX2_open 15 = .ok (.aload_n 0, 1) := by decide +kernel
theorem dX2_open_16 : decode cX2_open 16 = .ok (.getfield 15, 3) := by decide +kernel
theorem dX2_open_19 : decode cX2_open 19 = .ok (.iconst 0, 1) := by decide +kernel
theorem dX2_open_20 : decode cX2_open 20 = .ok (.invokestatic 42, 3) := by decide +kernel
theorem dX2_open_23 : decode cX2_open 23 = .ok (.aload_n 0, 1) := by decide +kernel
theorem dX2_open_24 : decode cX2_open 24 = .ok (.getfield 18, 3) := by decide +kernel
theorem dX2_open_27 : decode cX2_open 27 = .ok (.iconst 0, 1) := by decide +kernel
theorem dX2_open_28 : decode cX2_open 28 = .ok (.invokestatic 42, 3) := by decide +kernel
theorem dX2_open_31 : decode cX2_open 31 = .ok (.aload_n 0, 1) := by decide +kernel
theorem dX2_open_32 : decode cX2_open 32 = .ok (.getfield 21, 3) := by decide +kernel
theorem dX2_open_35 : decode cX2_open 35 = .ok (.iconst 0, 1) := by decide +kernel
theorem dX2_open_36 : decode cX2_open 36 = .ok (.invokestatic 42, 3) := by decide +kernel
theorem dX2_open_39 : decode cX2_open 39 = .ok (.aload_n 0, 1) := by decide +kernel
theorem dX2_open_40 : decode cX2_open 40 = .ok (.getfield 24, 3) := by decide +kernel
theorem dX2_open_43 : decode cX2_open 43 = .ok (.iconst 0, 1) := by decide +kernel
theorem dX2_open_44 : decode cX2_open 44 = .ok (.invokestatic 42, 3) := by decide +kernel
theorem dX2_open_47 : decode cX2_open 47 = .ok (.aload_n 0, 1) := by decide +kernel
theorem dX2_open_48 : decode cX2_open 48 = .ok (.iconst 0, 1) := by decide +kernel
theorem dX2_open_49 : decode cX2_open 49 = .ok (.putfield 33, 3) := by decide +kernel
theorem dX2_open_52 : decode cX2_open 52 = .ok (.return_, 1) := by decide +kernel
theorem dX2_spreadOf_0 : decode cX2_spreadOf 0 = .ok (.iconst 0, 1) := by decide +kernel
theorem dX2_spreadOf_1 : decode cX2_spreadOf 1 = .ok (.istore_n 2, 1) := by decide +kernel
theorem dX2_spreadOf_2 : decode cX2_spreadOf 2 = .ok (.sipush 1680, 3) := by decide +kernel
theorem dX2_spreadOf_5 : decode cX2_spreadOf 5 = .ok (.istore_n 3, 1) := by decide +kernel
theorem dX2_spreadOf_6 : decode cX2_spreadOf 6 = .ok (.iconst 0, 1) := by decide +kernel
theorem dX2_spreadOf_7 : decode cX2_spreadOf 7 = .ok (.istore 4, 2) := by decide +kernel
theorem dX2_spreadOf_9 : decode cX2_spreadOf 9 = .ok (.iload 4, 2) := by decide +kernel
theorem dX2_spreadOf_11 : decode cX2_spreadOf 11 = .ok (.bipush 7, 2) := by decide +kernel
theorem dX2_spreadOf_13 : decode cX2_spreadOf 13 = .ok (.if_icmp .ge 67, 3) := by decide +kernel
theorem dX2_spreadOf_16 : decode cX2_spreadOf 16 = .ok (.iconst 0, 1) := by decide +kernel
theorem dX2_spreadOf_17 : decode cX2_spreadOf 17 = .ok (.istore 5, 2) := by decide +kernel
theorem dX2_spreadOf_19 : decode cX2_spreadOf 19 = .ok (.iconst 0, 1) := by decide +kernel
theorem dX2_spreadOf_20 : decode cX2_spreadOf 20 = .ok (.istore 6, 2) := by decide +kernel
theorem dX2_spreadOf_22 : decode cX2_spreadOf 22 = .ok (.iload 6, 2) := by decide +kernel
theorem dX2_spreadOf_24 : decode cX2_spreadOf 24 = .ok (.bipush 6, 2) := by decide +kernel
theorem dX2_spreadOf_26 : decode cX2_spreadOf 26 = .ok (.if_icmp .ge 34, 3) := by decide +kernel
theorem dX2_spreadOf_29 : decode cX2_spreadOf 29 = .ok (.iload 5, 2) := by decide +kernel
theorem dX2_spreadOf_31 : decode cX2_spreadOf 31 = .ok (.iload_n 1, 1) := by decide +kernel
theorem dX2_spreadOf_32 : decode cX2_spreadOf 32 = .ok (.iload 6, 2) := by decide +kernel
theorem dX2_spreadOf_34 : decode cX2_spreadOf 34 = .ok (.ishr, 1) := by decide +kernel
theorem dX2_spreadOf_35 : decode cX2_spreadOf 35 = .ok (.iconst 1, 1) := by decide +kernel
theorem dX2_spreadOf_36 : decode cX2_spreadOf 36 = .ok (.iand, 1) := by decide +kernel
theorem dX2_spreadOf_37 : decode cX2_spreadOf 37 = .ok (.aload_n 0, 1) := by decide +kernel
theorem dX2_spreadOf_38 : decode cX2_spreadOf 38 = .ok (.getfield 9, 3) := by decide +kernel
theorem dX2_spreadOf_41 : decode cX2_spreadOf 41 = .ok (.iload 6, 2) := by decide +kernel
theorem dX2_spreadOf_43 : decode cX2_spreadOf 43 = .ok (.bipush 7, 2) := by decide +kernel
theorem dX2_spreadOf_45 : decode cX2_spreadOf 45 = .ok (.imul, 1) := by decide +kernel
theorem dX2_spreadOf_46 : decode cX2_spreadOf 46 = .ok (.iload 4, 2) := by decide +kernel
theorem dX2_spreadOf_48 : decode cX2_spreadOf 48 = .ok (.iadd, 1) := by decide +kernel
theorem dX2_spreadOf_49 : decode cX2_spreadOf 49 = .ok (.iaload, 1) := by decide +kernel
theorem dX2_spreadOf_50 : decode cX2_spreadOf 50 = .ok (.imul, 1) := by decide +kernel
theorem dX2_spreadOf_51 : decode cX2_spreadOf 51 = .ok (.iadd, 1) := by decide +kernel
theorem dX2_spreadOf_52 : decode cX2_spreadOf 52 = .ok (.istore 5, 2) := by decide +kernel
theorem dX2_spreadOf_54 : decode cX2_spreadOf 54 = .ok (.iinc 6 1, 3) := by decide +kernel
theorem dX2_spreadOf_57 : decode cX2_spreadOf 57 = .ok (.goto (-35), 3) := by decide +kernel
theorem dX2_spreadOf_60 : decode cX2_spreadOf 60 = .ok (.iload_n 2, 1) := by decide +kernel
theorem dX2_spreadOf_61 : decode cX2_spreadOf 61 = .ok (.iload 5, 2) := by decide +kernel
theorem dX2_spreadOf_63 : decode cX2_spreadOf 63 = .ok (.invokestatic 65, 3) := by decide +kernel
theorem dX2_spreadOf_66 : decode cX2_spreadOf 66 = .ok (.istore_n 2, 1) := by decide +kernel
theorem dX2_spreadOf_67 : decode cX2_spreadOf 67 = .ok (.iload_n 3, 1) := by decide +kernel
theorem dX2_spreadOf_68 : decode cX2_spreadOf 68 = .ok (.iload 5, 2) := by decide +kernel
theorem dX2_spreadOf_70 : decode cX2_spreadOf 70 = .ok (.invokestatic 60, 3) := by decide +kernel
theorem dX2_spreadOf_73 : decode cX2_spreadOf 73 = .ok (.istore_n 3, 1) := by decide +kernel
theorem dX2_spreadOf_74 : decode cX2_spreadOf 74 = .ok (.iinc 4 1, 3) := by decide +kernel
theorem dX2_spreadOf_77 : decode cX2_spreadOf 77 = .ok (.goto (-68), 3) := by decide +kernel
theorem dX2_spreadOf_80 : decode cX2_spreadOf 80 = .ok (.iload_n 2, 1) := by decide +kernel
theorem dX2_spreadOf_81 : decode cX2_spreadOf 81 = .ok (.iload_n 3, 1) := by decide +kernel
theorem dX2_spreadOf_82 : decode cX2_spreadOf 82 = .ok (.isub, 1) := by decide +kernel
theorem dX2_spreadOf_83 : decode cX2_spreadOf 83 = .ok (.ireturn, 1) := by decide +kernel
theorem dX2_muchNear_0 : decode cX2_muchNear 0 = .ok (.iconst 0, 1) := by decide +kernel
theorem dX2_muchNear_1 : decode cX2_muchNear 1 = .ok (.istore_n 3, 1) := by decide +kernel
theorem dX2_muchNear_2 : decode cX2_muchNear 2 = .ok (.iconst 0, 1) := by decide +kernel
theorem dX2_muchNear_3 : decode cX2_muchNear 3 = .ok (.istore 4, 2) := by decide +kernel
theorem dX2_muchNear_5 : decode cX2_muchNear 5 = .ok (.iload 4, 2) := by decide +kernel
theorem dX2_muchNear_7 : decode cX2_muchNear 7 = .ok (.bipush 42, 2) := by decide +kernel
theorem dX2_muchNear_9 : decode cX2_muchNear 9 = .ok (.if_icmp .ge 35, 3) := by decide +kernel
theorem dX2_muchNear_12 : decode cX2_muchNear 12 = .ok (.aload_n 0, 1) := by decide +kernel
theorem dX2_muchNear_13 : decode cX2_muchNear 13 = .ok (.getfield 18, 3) := by decide +kernel
theorem dX2_muchNear_16 : decode cX2_muchNear 16 = .ok (.iload 4, 2) := by decide +kernel
theorem dX2_muchNear_18 : decode cX2_muchNear 18 = .ok (.iaload, 1) := by decide +kernel
theorem dX2_muchNear_19 : decode cX2_muchNear 19 = .ok (.iload_n 1, 1) := by decide +kernel
theorem dX2_muchNear_20 : decode cX2_muchNear 20 = .ok (.isub, 1) := by decide +kernel
theorem dX2_muchNear_21 : decode cX2_muchNear 21 = .ok (.invokestatic 78, 3) := by decide +kernel
theorem dX2_muchNear_24 : decode cX2_muchNear 24 = .ok (.iload_n 2, 1) := by decide +kernel
theorem dX2_muchNear_25 : decode cX2_muchNear 25 = .ok (.if_icmp .gt 13, 3) := by decide +kernel
theorem dX2_muchNear_28 : decode cX2_muchNear 28 = .ok (.iload_n 3, 1) := by decide +kernel
theorem dX2_muchNear_29 : decode cX2_muchNear 29 = .ok (.aload_n 0, 1) := by decide +kernel
theorem dX2_muchNear_30 : decode cX2_muchNear 30 = .ok (.getfield 15, 3) := by decide +kernel
theorem dX2_muchNear_33 : decode cX2_muchNear 33 = .ok (.iload 4, 2) := by decide +kernel
theorem dX2_muchNear_35 : decode cX2_muchNear 35 = .ok (.iaload, 1) := by decide +kernel
theorem dX2_muchNear_36 : decode cX2_muchNear 36 = .ok (.iadd, 1) := by decide +kernel
theorem dX2_muchNear_37 : decode cX2_muchNear 37 = .ok (.istore_n 3, 1) := by decide +kernel
theorem dX2_muchNear_38 : decode cX2_muchNear 38 = .ok (.iinc 4 1, 3) := by decide +kernel
theorem dX2_muchNear_41 : decode cX2_muchNear 41 = .ok (.goto (-36), 3) := by decide +kernel
theorem dX2_muchNear_44 : decode cX2_muchNear 44 = .ok (.iload_n 3, 1) := by decide +kernel
theorem dX2_muchNear_45 : decode cX2_muchNear 45 = .ok (.ireturn, 1) := by decide +kernel
theorem dX2_isWhite_0 : decode cX2_isWhite 0 = .ok (.aload_n 0, 1) := by decide +kernel
theorem dX2_isWhite_1 : decode cX2_isWhite 1 = .ok (.iload_n 1, 1) := by decide +kernel
theorem dX2_isWhite_2 : decode cX2_isWhite 2 = .ok (.invokevirtual 68, 3) := by decide +kernel
theorem dX2_isWhite_5 : decode cX2_isWhite 5 = .ok (.ifCond .ne 15, 3) := by decide +kernel
theorem dX2_isWhite_8 : decode cX2_isWhite 8 = .ok (.aload_n 0, 1) := by decide +kernel
theorem dX2_isWhite_9 : decode cX2_isWhite 9 = .ok (.iload_n 1, 1) := by decide +kernel
theorem dX2_isWhite_10 : decode cX2_isWhite 10 = .ok (.invokevirtual 71, 3) := by decide +kernel
theorem dX2_isWhite_13 : decode cX2_isWhite 13 = .ok (.ifCond .le 7, 3) := by decide +kernel
theorem dX2_isWhite_16 : decode cX2_isWhite 16 = .ok (.iconst 1, 1) := by decide +kernel
theorem dX2_isWhite_17 : decode cX2_isWhite 17 = .ok (.goto 4, 3) := by decide +kernel
theorem dX2_isWhite_20 : decode cX2_isWhite 20 = .ok (.iconst 0, 1) := by decide +kernel
theorem dX2_isWhite_21 : decode cX2_isWhite 21 = .ok (.ireturn, 1) := by decide +kernel
theorem dX2_mostPart_0 : decode cX2_mostPart 0 = .ok (.iconst 0, 1) := by decide +kernel
theorem dX2_mostPart_1 : decode cX2_mostPart 1 = .ok (.istore_n 2, 1) := by decide +kernel
theorem dX2_mostPart_2 : decode cX2_mostPart 2 = .ok (.iconst 1, 1) := by decide +kernel
theorem dX2_mostPart_3 : decode cX2_mostPart 3 = .ok (.istore_n 3, 1) := by decide +kernel
theorem dX2_mostPart_4 : decode cX2_mostPart 4 = .ok (.iload_n 3, 1) := by decide +kernel
theorem dX2_mostPart_5 : decode cX2_mostPart 5 = .ok (.bipush 7, 2) := by decide +kernel
theorem dX2_mostPart_7 : decode cX2_mostPart 7 = .ok (.if_icmp .ge 36, 3) := by decide +kernel
theorem dX2_mostPart_10 : decode cX2_mostPart 10 = .ok (.aload_n 0, 1) := by decide +kernel
theorem dX2_mostPart_11 : decode cX2_mostPart 11 = .ok (.getfield 9, 3) := by decide +kernel
theorem dX2_mostPart_14 : decode cX2_mostPart 14 = .ok (.iload_n 1, 1) := by decide +kernel
theorem dX2_mostPart_15 : decode cX2_mostPart 15 = .ok (.bipush 7, 2) := by decide +kernel
theorem dX2_mostPart_17 : decode cX2_mostPart 17 = .ok (.imul, 1) := by decide +kernel
theorem dX2_mostPart_18 : decode cX2_mostPart 18 = .ok (.iload_n 3, 1) := by decide +kernel
theorem dX2_mostPart_19 : decode cX2_mostPart 19 = .ok (.iadd, 1) := by decide +kernel
theorem dX2_mostPart_20 : decode cX2_mostPart 20 = .ok (.iaload, 1) := by decide +kernel
theorem dX2_mostPart_21 : decode cX2_mostPart 21 = .ok (.aload_n 0, 1) := by decide +kernel
theorem dX2_mostPart_22 : decode cX2_mostPart 22 = .ok (.getfield 9, 3) := by decide +kernel
theorem dX2_mostPart_25 : decode cX2_mostPart 25 = .ok (.iload_n 1, 1) := by decide +kernel
theorem dX2_mostPart_26 : decode cX2_mostPart 26 = .ok (.bipush 7, 2) := by decide +kernel
theorem dX2_mostPart_28 : decode cX2_mostPart 28 = .ok (.imul, 1) := by decide +kernel
theorem dX2_mostPart_29 : decode cX2_mostPart 29 = .ok (.iload_n 2, 1) := by decide +kernel
theorem dX2_mostPart_30 : decode cX2_mostPart 30 = .ok (.iadd, 1) := by decide +kernel
theorem dX2_mostPart_31 : decode cX2_mostPart 31 = .ok (.iaload, 1) := by decide +kernel
theorem dX2_mostPart_32 : decode cX2_mostPart 32 = .ok (.if_icmp .le 5, 3) := by decide +kernel
theorem dX2_mostPart_35 : decode cX2_mostPart 35 = .ok (.iload_n 3, 1) := by decide +kernel
theorem dX2_mostPart_36 : decode cX2_mostPart 36 = .ok (.istore_n 2, 1) := by decide +kernel
theorem dX2_mostPart_37 : decode cX2_mostPart 37 = .ok (.iinc 3 1, 3) := by decide +kernel
theorem dX2_mostPart_40 : decode cX2_mostPart 40 = .ok (.goto (-36), 3) := by decide +kernel
theorem dX2_mostPart_43 : decode cX2_mostPart 43 = .ok (.iload_n 2, 1) := by decide +kernel
theorem dX2_mostPart_44 : decode cX2_mostPart 44 = .ok (.ireturn, 1) := by decide +kernel
theorem dX2_passDay_0 : decode cX2_passDay 0 = .ok (.iconst 0, 1) := by decide +kernel
theorem dX2_passDay_1 : decode cX2_passDay 1 = .ok (.istore_n 1, 1) := by decide +kernel
theorem dX2_passDay_2 : decode cX2_passDay 2 = .ok (.iload_n 1, 1) := by decide +kernel
theorem dX2_passDay_3 : decode cX2_passDay 3 = .ok (.bipush 42, 2) := by decide +kernel
theorem dX2_passDay_5 : decode cX2_passDay 5 = .ok (.if_icmp .ge 28, 3) := by decide +kernel
theorem dX2_passDay_8 : decode cX2_passDay 8 = .ok (.aload_n 0, 1) := by decide +kernel
theorem dX2_passDay_9 : decode cX2_passDay 9 = .ok (.getfield 15, 3) := by decide +kernel
theorem dX2_passDay_12 : decode cX2_passDay 12 = .ok (.iload_n 1, 1) := by decide +kernel
theorem dX2_passDay_13 : decode cX2_passDay 13 = .ok (.iaload, 1) := by decide +kernel
theorem dX2_passDay_14 : decode cX2_passDay 14 = .ok (.ifCond .le 13, 3) := by decide +kernel
theorem dX2_passDay_17 : decode cX2_passDay 17 = .ok (.aload_n 0, 1) := by decide +kernel
theorem dX2_passDay_18 : decode cX2_passDay 18 = .ok (.getfield 15, 3) := by decide +kernel
theorem dX2_passDay_21 : decode cX2_passDay 21 = .ok (.iload_n 1, 1) := by decide +kernel
theorem dX2_passDay_22 : decode cX2_passDay 22 = .ok (.dup2, 1) := by decide +kernel
theorem dX2_passDay_23 : decode cX2_passDay 23 = .ok (.iaload, 1) := by decide +kernel
theorem dX2_passDay_24 : decode cX2_passDay 24 = .ok (.iconst 1, 1) := by decide +kernel
theorem dX2_passDay_25 : decode cX2_passDay 25 = .ok (.isub, 1) := by decide +kernel
theorem dX2_passDay_26 : decode cX2_passDay 26 = .ok (.iastore, 1) := by decide +kernel
theorem dX2_passDay_27 : decode cX2_passDay 27 = .ok (.iinc 1 1, 3) := by decide +kernel
theorem dX2_passDay_30 : decode cX2_passDay 30 = .ok (.goto (-28), 3) := by decide +kernel
theorem dX2_passDay_33 : decode cX2_passDay 33 = .ok (.aload_n 0, 1) := by decide +kernel
theorem dX2_passDay_34 : decode cX2_passDay 34 = .ok (.dup, 1) := by decide +kernel
theorem dX2_passDay_35 : decode cX2_passDay 35 = .ok (.getfield 33, 3) := by decide +kernel
theorem dX2_passDay_38 : decode cX2_passDay 38 = .ok (.iconst 1, 1) := by decide +kernel
theorem dX2_passDay_39 : decode cX2_passDay 39 = .ok (.iadd, 1) := by decide +kernel
theorem dX2_passDay_40 : decode cX2_passDay 40 = .ok (.putfield 33, 3) := by decide +kernel
theorem dX2_passDay_43 : decode cX2_passDay 43 = .ok (.return_, 1) := by decide +kernel
theorem dX2_takeOut_0 : decode cX2_takeOut 0 = .ok (.aload_n 0, 1) := by decide +kernel
theorem dX2_takeOut_1 : decode cX2_takeOut 1 = .ok (.getfield 9, 3) := by decide +kernel
theorem dX2_takeOut_4 : decode cX2_takeOut 4 = .ok (.iload_n 1, 1) := by decide +kernel
theorem dX2_takeOut_5 : decode cX2_takeOut 5 = .ok (.iaload, 1) := by decide +kernel
theorem dX2_takeOut_6 : decode cX2_takeOut 6 = .ok (.iload_n 2, 1) := by decide +kernel
theorem dX2_takeOut_7 : decode cX2_takeOut 7 = .ok (.if_icmp .ge 5, 3) := by decide +kernel
theorem dX2_takeOut_10 : decode cX2_takeOut 10 = .ok (.iconst 0, 1) := by decide +kernel
theorem dX2_takeOut_11 : decode cX2_takeOut 11 = .ok (.ireturn, 1) := by decide +kernel
theorem dX2_takeOut_12 : decode cX2_takeOut 12 = .ok (.aload_n 0, 1) := by decide +kernel
theorem dX2_takeOut_13 : decode cX2_takeOut 13 = .ok (.getfield 9, 3) := by decide +kernel
theorem dX2_takeOut_16 : decode cX2_takeOut 16 = .ok (.iload_n 1, 1) := by decide +kernel
theorem dX2_takeOut_17 : decode cX2_takeOut 17 = .ok (.dup2, 1) := by decide +kernel
theorem dX2_takeOut_18 : decode cX2_takeOut 18 = .ok (.iaload, 1) := by decide +kernel
theorem dX2_takeOut_19 : decode cX2_takeOut 19 = .ok (.iload_n 2, 1) := by decide +kernel
theorem dX2_takeOut_20 : decode cX2_takeOut 20 = .ok (.isub, 1) := by decide +kernel
theorem dX2_takeOut_21 : decode cX2_takeOut 21 = .ok (.iastore, 1) := by decide +kernel
theorem dX2_takeOut_22 : decode cX2_takeOut 22 = .ok (.aload_n 0, 1) := by decide +kernel
theorem dX2_takeOut_23 : decode cX2_takeOut 23 = .ok (.getfield 21, 3) := by decide +kernel
theorem dX2_takeOut_26 : decode cX2_takeOut 26 = .ok (.iload_n 1, 1) := by decide +kernel
theorem dX2_takeOut_27 : decode cX2_takeOut 27 = .ok (.dup2, 1) := by decide +kernel
theorem dX2_takeOut_28 : decode cX2_takeOut 28 = .ok (.iaload, 1) := by decide +kernel
theorem dX2_takeOut_29 : decode cX2_takeOut 29 = .ok (.iload_n 2, 1) := by decide +kernel
theorem dX2_takeOut_30 : decode cX2_takeOut 30 = .ok (.iadd, 1) := by decide +kernel
theorem dX2_takeOut_31 : decode cX2_takeOut 31 = .ok (.iastore, 1) := by decide +kernel
theorem dX2_takeOut_32 : decode cX2_takeOut 32 = .ok (.iconst 1, 1) := by decide +kernel
theorem dX2_takeOut_33 : decode cX2_takeOut 33 = .ok (.ireturn, 1) := by decide +kernel
theorem dX2_litBits_0 : decode cX2_litBits 0 = .ok (.iconst 0, 1) := by decide +kernel
theorem dX2_litBits_1 : decode cX2_litBits 1 = .ok (.istore_n 2, 1) := by decide +kernel
theorem dX2_litBits_2 : decode cX2_litBits 2 = .ok (.iconst 0, 1) := by decide +kernel
theorem dX2_litBits_3 : decode cX2_litBits 3 = .ok (.istore_n 3, 1) := by decide +kernel
theorem dX2_litBits_4 : decode cX2_litBits 4 = .ok (.iload_n 3, 1) := by decide +kernel
theorem dX2_litBits_5 : decode cX2_litBits 5 = .ok (.bipush 42, 2) := by decide +kernel
theorem dX2_litBits_7 : decode cX2_litBits 7 = .ok (.if_icmp .ge 28, 3) := by decide +kernel
theorem dX2_litBits_10 : decode cX2_litBits 10 = .ok (.aload_n 0, 1) := by decide +kernel
theorem dX2_litBits_11 : decode cX2_litBits 11 = .ok (.getfield 15, 3) := by decide +kernel
theorem dX2_litBits_14 : decode cX2_litBits 14 = .ok (.iload_n 3, 1) := by decide +kernel
theorem dX2_litBits_15 : decode cX2_litBits 15 = .ok (.iaload, 1) := by decide +kernel
theorem dX2_litBits_16 : decode cX2_litBits 16 = .ok (.iload_n 1, 1) := by decide +kernel
theorem dX2_litBits_17 : decode cX2_litBits 17 = .ok (.if_icmp .le 12, 3) := by decide +kernel
theorem dX2_litBits_20 : decode cX2_litBits 20 = .ok (.iload_n 2, 1) := by decide +kernel
theorem dX2_litBits_21 : decode cX2_litBits 21 = .ok (.iconst 1, 1) := by decide +kernel
theorem dX2_litBits_22 : decode cX2_litBits 22 = .ok (.iload_n 3, 1) := by decide +kernel
theorem dX2_litBits_23 : decode cX2_litBits 23 = .ok (.bipush 7, 2) := by decide +kernel
theorem dX2_litBits_25 : decode cX2_litBits 25 = .ok (.idiv, 1) := by decide +kernel
theorem dX2_litBits_26 : decode cX2_litBits 26 = .ok (.ishl, 1) := by decide +kernel
theorem dX2_litBits_27 : decode cX2_litBits 27 = .ok (.ior, 1) := by decide +kernel
theorem dX2_litBits_28 : decode cX2_litBits 28 = .ok (.istore_n 2, 1) := by decide +kernel
theorem dX2_litBits_29 : decode cX2_litBits 29 = .ok (.iinc 3 1, 3) := by decide +kernel
theorem dX2_litBits_32 : decode cX2_litBits 32 = .ok (.goto (-28), 3) := by decide +kernel
theorem dX2_litBits_35 : decode cX2_litBits 35 = .ok (.iload_n 2, 1) := by decide +kernel
theorem dX2_litBits_36 : decode cX2_litBits 36 = .ok (.ireturn, 1) := by decide +kernel
theorem dX2_greatestPlace_0 : decode cX2_greatestPlace 0 = .ok (.iconst (-1), 1) := by decide +kernel
theorem dX2_greatestPlace_1 : decode cX2_greatestPlace 1 = .ok (.istore_n 2, 1) := by decide +kernel
theorem dX2_greatestPlace_2 : decode cX2_greatestPlace 2 = .ok (.iload_n 1, 1) := by decide +kernel
theorem dX2_greatestPlace_3 : decode cX2_greatestPlace 3 = .ok (.bipush 7, 2) := by decide +kernel
theorem dX2_greatestPlace_5 : decode cX2_greatestPlace 5 = .ok (.imul, 1) := by decide +kernel
theorem dX2_greatestPlace_6 : decode cX2_greatestPlace 6 = .ok (.istore_n 3, 1) := by decide +kernel
theorem dX2_greatestPlace_7 : decode cX2_greatestPlace 7 = .ok (.iload_n 3, 1) := by decide +kernel
theorem dX2_greatestPlace_8 : decode cX2_greatestPlace 8 = .ok (.iload_n 1, 1) := by decide +kernel
theorem dX2_greatestPlace_9 : decode cX2_greatestPlace 9 = .ok (.bipush 7, 2) := by decide +kernel
theorem dX2_greatestPlace_11 : decode cX2_greatestPlace 11 = .ok (.imul, 1) := by decide +kernel
theorem dX2_greatestPlace_12 : decode cX2_greatestPlace 12 = .ok (.bipush 7, 2) := by decide +kernel
theorem dX2_greatestPlace_14 : decode cX2_greatestPlace 14 = .ok (.iadd, 1) := by decide +kernel
theorem dX2_greatestPlace_15 : decode cX2_greatestPlace 15 = .ok (.if_icmp .ge 29, 3) := by decide +kernel
theorem dX2_greatestPlace_18 : decode cX2_greatestPlace 18 = .ok (.aload_n 0, 1) := by decide +kernel
theorem dX2_greatestPlace_19 : decode cX2_greatestPlace 19 = .ok (.getfield 15, 3) := by decide +kernel
theorem dX2_greatestPlace_22 : decode cX2_greatestPlace 22 = .ok (.iload_n 3, 1) := by decide +kernel
theorem dX2_greatestPlace_23 : decode cX2_greatestPlace 23 = .ok (.iaload, 1) := by decide +kernel
theorem dX2_greatestPlace_24 : decode cX2_greatestPlace 24 = .ok (.ifCond .le 14, 3) := by decide +kernel
theorem dX2_greatestPlace_27 : decode cX2_greatestPlace 27 = .ok (.iload_n 2, 1) := by decide +kernel
theorem dX2_greatestPlace_28 : decode cX2_greatestPlace 28 = .ok (.aload_n 0, 1) := by decide +kernel
theorem dX2_greatestPlace_29 : decode cX2_greatestPlace 29 = .ok (.getfield 18, 3) := by decide +kernel
theorem dX2_greatestPlace_32 : decode cX2_greatestPlace 32 = .ok (.iload_n 3, 1) := by decide +kernel
theorem dX2_greatestPlace_33 : decode cX2_greatestPlace 33 = .ok (.iaload, 1) := by decide +kernel
theorem dX2_greatestPlace_34 : decode cX2_greatestPlace 34 = .ok (.invokestatic 65, 3) := by decide +kernel
theorem dX2_greatestPlace_37 : decode cX2_greatestPlace 37 = .ok (.istore_n 2, 1) := by decide +kernel
theorem dX2_greatestPlace_38 : decode cX2_greatestPlace 38 = .ok (.iinc 3 1, 3) := by decide +kernel
theorem dX2_greatestPlace_41 : decode cX2_greatestPlace 41 = .ok (.goto (-34), 3) := by decide +kernel
theorem dX2_greatestPlace_44 : decode cX2_greatestPlace 44 = .ok (.iload_n 2, 1) := by decide +kernel
theorem dX2_greatestPlace_45 : decode cX2_greatestPlace 45 = .ok (.ireturn, 1) := by decide +kernel
theorem dX11_sum_0 : decode cX11_sum 0 = .ok (.iconst 0, 1) := by decide +kernel
theorem dX11_sum_1 : decode cX11_sum 1 = .ok (.istore_n 3, 1) := by decide +kernel
theorem dX11_sum_2 : decode cX11_sum 2 = .ok (.iload_n 1, 1) := by decide +kernel
theorem dX11_sum_3 : decode cX11_sum 3 = .ok (.istore 4, 2) := by decide +kernel
theorem dX11_sum_5 : decode cX11_sum 5 = .ok (.iload 4, 2) := by decide +kernel
theorem dX11_sum_7 : decode cX11_sum 7 = .ok (.iload_n 2, 1) := by decide +kernel
theorem dX11_sum_8 : decode cX11_sum 8 = .ok (.if_icmp .ge 16, 3) := by decide +kernel
theorem dX11_sum_11 : decode cX11_sum 11 = .ok (.iload_n 3, 1) := by decide +kernel
theorem dX11_sum_12 : decode cX11_sum 12 = .ok (.aload_n 0, 1) := by decide +kernel
theorem dX11_sum_13 : decode cX11_sum 13 = .ok (.iload 4, 2) := by decide +kernel
theorem dX11_sum_15 : decode cX11_sum 15 = .ok (.iaload, 1) := by decide +kernel
theorem dX11_sum_16 : decode cX11_sum 16 = .ok (.iadd, 1) := by decide +kernel
theorem dX11_sum_17 : decode cX11_sum 17 = .ok (.istore_n 3, 1) := by decide +kernel
theorem dX11_sum_18 : decode cX11_sum 18 = .ok (.iinc 4 1, 3) := by decide +kernel
theorem dX11_sum_21 : decode cX11_sum 21 = .ok (.goto (-16), 3) := by decide +kernel
theorem dX11_sum_24 : decode cX11_sum 24 = .ok (.iload_n 3, 1) := by decide +kernel
theorem dX11_sum_25 : decode cX11_sum 25 = .ok (.ireturn, 1) := by decide +kernel
theorem dX2_isBlurred_0 : decode cX2_isBlurred 0 = .ok (.iload_n 1, 1) := by decide +kernel
theorem dX2_isBlurred_1 : decode cX2_isBlurred 1 = .ok (.bipush 7, 2) := by decide +kernel
theorem dX2_isBlurred_3 : decode cX2_isBlurred 3 = .ok (.imul, 1) := by decide +kernel
theorem dX2_isBlurred_4 : decode cX2_isBlurred 4 = .ok (.istore_n 2, 1) := by decide +kernel
theorem dX2_isBlurred_5 : decode cX2_isBlurred 5 = .ok (.iload_n 2, 1) := by decide +kernel
theorem dX2_isBlurred_6 : decode cX2_isBlurred 6 = .ok (.iload_n 1, 1) := by decide +kernel
theorem dX2_isBlurred_7 : decode cX2_isBlurred 7 = .ok (.bipush 7, 2) := by decide +kernel
theorem dX2_isBlurred_9 : decode cX2_isBlurred 9 = .ok (.imul, 1) := by decide +kernel
theorem dX2_isBlurred_10 : decode cX2_isBlurred 10 = .ok (.bipush 7, 2) := by decide +kernel
theorem dX2_isBlurred_12 : decode cX2_isBlurred 12 = .ok (.iadd, 1) := by decide +kernel
theorem dX2_isBlurred_13 : decode cX2_isBlurred 13 = .ok (.if_icmp .ge 60, 3) := by decide +kernel
theorem dX2_isBlurred_16 : decode cX2_isBlurred 16 = .ok (.iload_n 1, 1) := by decide +kernel
theorem dX2_isBlurred_17 : decode cX2_isBlurred 17 = .ok (.bipush 7, 2) := by decide +kernel
theorem dX2_isBlurred_19 : decode cX2_isBlurred 19 = .ok (.imul, 1) := by decide +kernel
theorem dX2_isBlurred_20 : decode cX2_isBlurred 20 = .ok (.istore_n 3, 1) := by decide +kernel
theorem dX2_isBlurred_21 : decode cX2_isBlurred 21 = .ok (.iload_n 3, 1) := by decide +kernel
theorem dX2_isBlurred_22 : decode cX2_isBlurred 22 = .ok (.iload_n 2, 1) := by decide +kernel
theorem dX2_isBlurred_23 : decode cX2_isBlurred 23 = .ok (.if_icmp .ge 44, 3) := by decide +kernel
theorem dX2_isBlurred_26 : decode cX2_isBlurred 26 = .ok (.aload_n 0, 1) := by decide +kernel
theorem dX2_isBlurred_27 : decode cX2_isBlurred 27 = .ok (.getfield 15, 3) := by decide +kernel
theorem dX2_isBlurred_30 : decode cX2_isBlurred 30 = .ok (.iload_n 2, 1) := by decide +kernel
theorem dX2_isBlurred_31 : decode cX2_isBlurred 31 = .ok (.iaload, 1) := by decide +kernel
theorem dX2_isBlurred_32 : decode cX2_isBlurred 32 = .ok (.ifCond .le 29, 3) := by decide +kernel
theorem dX2_isBlurred_35 : decode cX2_isBlurred 35 = .ok (.aload_n 0, 1) := by decide +kernel
theorem dX2_isBlurred_36 : decode cX2_isBlurred 36 = .ok (.getfield 15, 3) := by decide +kernel
theorem dX2_isBlurred_39 : decode cX2_isBlurred 39 = .ok (.iload_n 3, 1) := by decide +kernel
theorem dX2_isBlurred_40 : decode cX2_isBlurred 40 = .ok (.iaload, 1) := by decide +kernel
theorem dX2_isBlurred_41 : decode cX2_isBlurred 41 = .ok (.ifCond .le 20, 3) := by decide +kernel
theorem dX2_isBlurred_44 : decode cX2_isBlurred 44 = .ok (.aload_n 0, 1) := by decide +kernel
theorem dX2_isBlurred_45 : decode cX2_isBlurred 45 = .ok (.getfield 18, 3) := by decide +kernel
theorem dX2_isBlurred_48 : decode cX2_isBlurred 48 = .ok (.iload_n 2, 1) := by decide +kernel
theorem dX2_isBlurred_49 : decode cX2_isBlurred 49 = .ok (.iaload, 1) := by decide +kernel
theorem dX2_isBlurred_50 : decode cX2_isBlurred 50 = .ok (.aload_n 0, 1) := by decide +kernel
theorem dX2_isBlurred_51 : decode cX2_isBlurred 51 = .ok (.getfield 18, 3) := by decide +kernel
theorem dX2_isBlurred_54 : decode cX2_isBlurred 54 = .ok (.iload_n 3, 1) := by decide +kernel
theorem dX2_isBlurred_55 : decode cX2_isBlurred 55 = .ok (.iaload, 1) := by decide +kernel
theorem dX2_isBlurred_56 : decode cX2_isBlurred 56 = .ok (.if_icmp .ne 5, 3) := by decide +kernel
theorem dX2_isBlurred_59 : decode cX2_isBlurred 59 = .ok (.iconst 1, 1) := by decide +kernel
theorem dX2_isBlurred_60 : decode cX2_isBlurred 60 = .ok (.ireturn, 1) := by decide +kernel
theorem dX2_isBlurred_61 : decode cX2_isBlurred 61 = .ok (.iinc 3 1, 3) := by decide +kernel
theorem dX2_isBlurred_64 : decode cX2_isBlurred 64 = .ok (.goto (-43), 3) := by decide +kernel
theorem dX2_isBlurred_67 : decode cX2_isBlurred 67 = .ok (.iinc 2 1, 3) := by decide +kernel
theorem dX2_isBlurred_70 : decode cX2_isBlurred 70 = .ok (.goto (-65), 3) := by decide +kernel
theorem dX2_isBlurred_73 : decode cX2_isBlurred 73 = .ok (.iconst 0, 1) := by decide +kernel
theorem dX2_isBlurred_74 : decode cX2_isBlurred 74 = .ok (.ireturn, 1) := by decide +kernel
theorem dX2_givenBy_0 : decode cX2_givenBy 0 = .ok (.iconst 0, 1) := by decide +kernel
theorem dX2_givenBy_1 : decode cX2_givenBy 1 = .ok (.istore_n 3, 1) := by decide +kernel
theorem dX2_givenBy_2 : decode cX2_givenBy 2 = .ok (.iconst 0, 1) := by decide +kernel
theorem dX2_givenBy_3 : decode cX2_givenBy 3 = .ok (.istore 4, 2) := by decide +kernel
theorem dX2_givenBy_5 : decode cX2_givenBy 5 = .ok (.iload 4, 2) := by decide +kernel
theorem dX2_givenBy_7 : decode cX2_givenBy 7 = .ok (.bipush 6, 2) := by decide +kernel
theorem dX2_givenBy_9 : decode cX2_givenBy 9 = .ok (.if_icmp .ge 32, 3) := by decide +kernel
theorem dX2_givenBy_12 : decode cX2_givenBy 12 = .ok (.iload_n 1, 1) := by decide +kernel
theorem dX2_givenBy_13 : decode cX2_givenBy 13 = .ok (.iload 4, 2) := by decide +kernel
theorem dX2_givenBy_15 : decode cX2_givenBy 15 = .ok (.ishr, 1) := by decide +kernel
theorem dX2_givenBy_16 : decode cX2_givenBy 16 = .ok (.iconst 1, 1) := by decide +kernel
theorem dX2_givenBy_17 : decode cX2_givenBy 17 = .ok (.iand, 1) := by decide +kernel
theorem dX2_givenBy_18 : decode cX2_givenBy 18 = .ok (.iconst 1, 1) := by decide +kernel
theorem dX2_givenBy_19 : decode cX2_givenBy 19 = .ok (.if_icmp .ne 16, 3) := by decide +kernel
theorem dX2_givenBy_22 : decode cX2_givenBy 22 = .ok (.iload_n 3, 1) := by decide +kernel
theorem dX2_givenBy_23 : decode cX2_givenBy 23 = .ok (.aload_n 0, 1) := by decide +kernel
theorem dX2_givenBy_24 : decode cX2_givenBy 24 = .ok (.iload 4, 2) := by decide +kernel
theorem dX2_givenBy_26 : decode cX2_givenBy 26 = .ok (.invokevirtual 56, 3) := by decide +kernel
theorem dX2_givenBy_29 : decode cX2_givenBy 29 = .ok (.iload_n 2, 1) := by decide +kernel
theorem dX2_givenBy_30 : decode cX2_givenBy 30 = .ok (.invokestatic 60, 3) := by decide +kernel
theorem dX2_givenBy_33 : decode cX2_givenBy 33 = .ok (.iadd, 1) := by decide +kernel
theorem dX2_givenBy_34 : decode cX2_givenBy 34 = .ok (.istore_n 3, 1) := by decide +kernel
theorem dX2_givenBy_35 : decode cX2_givenBy 35 = .ok (.iinc 4 1, 3) := by decide +kernel
theorem dX2_givenBy_38 : decode cX2_givenBy 38 = .ok (.goto (-33), 3) := by decide +kernel
theorem dX2_givenBy_41 : decode cX2_givenBy 41 = .ok (.iload_n 3, 1) := by decide +kernel
theorem dX2_givenBy_42 : decode cX2_givenBy 42 = .ok (.ireturn, 1) := by decide +kernel
theorem dJ6_bitCount_0f7a4_0 : decode cJ6_bitCount_0f7a4 0 = .ok (.iload_n 0, 1) := by decide +kernel
theorem dJ6_bitCount_0f7a4_1 : decode cJ6_bitCount_0f7a4 1 = .ok (.iload_n 0, 1) := by decide +kernel
theorem dJ6_bitCount_0f7a4_2 : decode cJ6_bitCount_0f7a4 2 = .ok (.iconst 1, 1) := by decide +kernel
theorem dJ6_bitCount_0f7a4_3 : decode cJ6_bitCount_0f7a4 3 = .ok (.iushr, 1) := by decide +kernel
theorem dJ6_bitCount_0f7a4_4 : decode cJ6_bitCount_0f7a4 4 = .ok (.ldc_w 265, 3) := by decide +kernel
theorem dJ6_bitCount_0f7a4_7 : decode cJ6_bitCount_0f7a4 7 = .ok (.iand, 1) := by decide +kernel
theorem dJ6_bitCount_0f7a4_8 : decode cJ6_bitCount_0f7a4 8 = .ok (.isub, 1) := by decide +kernel
theorem dJ6_bitCount_0f7a4_9 : decode cJ6_bitCount_0f7a4 9 = .ok (.istore_n 0, 1) := by decide +kernel
theorem dJ6_bitCount_0f7a4_10 : decode cJ6_bitCount_0f7a4 10 = .ok (.iload_n 0, 1) := by decide +kernel
theorem dJ6_bitCount_0f7a4_11 : decode cJ6_bitCount_0f7a4 11 = .ok (.ldc_w 266, 3) := by decide +kernel
theorem dJ6_bitCount_0f7a4_14 : decode cJ6_bitCount_0f7a4 14 = .ok (.iand, 1) := by decide +kernel
theorem dJ6_bitCount_0f7a4_15 : decode cJ6_bitCount_0f7a4 15 = .ok (.iload_n 0, 1) := by decide +kernel
theorem dJ6_bitCount_0f7a4_16 : decode cJ6_bitCount_0f7a4 16 = .ok (.iconst 2, 1) := by decide +kernel
theorem dJ6_bitCount_0f7a4_17 : decode cJ6_bitCount_0f7a4 17 = .ok (.iushr, 1) := by decide +kernel
theorem dJ6_bitCount_0f7a4_18 : decode cJ6_bitCount_0f7a4 18 = .ok (.ldc_w 266, 3) := by decide +kernel
theorem dJ6_bitCount_0f7a4_21 : decode cJ6_bitCount_0f7a4 21 = .ok (.iand, 1) := by decide +kernel
theorem dJ6_bitCount_0f7a4_22 : decode cJ6_bitCount_0f7a4 22 = .ok (.iadd, 1) := by decide +kernel
theorem dJ6_bitCount_0f7a4_23 : decode cJ6_bitCount_0f7a4 23 = .ok (.istore_n 0, 1) := by decide +kernel
theorem dJ6_bitCount_0f7a4_24 : decode cJ6_bitCount_0f7a4 24 = .ok (.iload_n 0, 1) := by decide +kernel
theorem dJ6_bitCount_0f7a4_25 : decode cJ6_bitCount_0f7a4 25 = .ok (.iload_n 0, 1) := by decide +kernel
theorem dJ6_bitCount_0f7a4_26 : decode cJ6_bitCount_0f7a4 26 = .ok (.iconst 4, 1) := by decide +kernel
theorem dJ6_bitCount_0f7a4_27 : decode cJ6_bitCount_0f7a4 27 = .ok (.iushr, 1) := by decide +kernel
theorem dJ6_bitCount_0f7a4_28 : decode cJ6_bitCount_0f7a4 28 = .ok (.iadd, 1) := by decide +kernel
theorem dJ6_bitCount_0f7a4_29 : decode cJ6_bitCount_0f7a4 29 = .ok (.ldc_w 267, 3) := by decide +kernel
theorem dJ6_bitCount_0f7a4_32 : decode cJ6_bitCount_0f7a4 32 = .ok (.iand, 1) := by decide +kernel
theorem dJ6_bitCount_0f7a4_33 : decode cJ6_bitCount_0f7a4 33 = .ok (.istore_n 0, 1) := by decide +kernel
theorem dJ6_bitCount_0f7a4_34 : decode cJ6_bitCount_0f7a4 34 = .ok (.iload_n 0, 1) := by decide +kernel
theorem dJ6_bitCount_0f7a4_35 : decode cJ6_bitCount_0f7a4 35 = .ok (.iload_n 0, 1) := by decide +kernel
theorem dJ6_bitCount_0f7a4_36 : decode cJ6_bitCount_0f7a4 36 = .ok (.bipush 8, 2) := by decide +kernel
theorem dJ6_bitCount_0f7a4_38 : decode cJ6_bitCount_0f7a4 38 = .ok (.iushr, 1) := by decide +kernel
theorem dJ6_bitCount_0f7a4_39 : decode cJ6_bitCount_0f7a4 39 = .ok (.iadd, 1) := by decide +kernel
theorem dJ6_bitCount_0f7a4_40 : decode cJ6_bitCount_0f7a4 40 = .ok (.istore_n 0, 1) := by decide +kernel
theorem dJ6_bitCount_0f7a4_41 : decode cJ6_bitCount_0f7a4 41 = .ok (.iload_n 0, 1) := by decide +kernel
theorem dJ6_bitCount_0f7a4_42 : decode cJ6_bitCount_0f7a4 42 = .ok (.iload_n 0, 1) := by decide +kernel
theorem dJ6_bitCount_0f7a4_43 : decode cJ6_bitCount_0f7a4 43 = .ok (.bipush 16, 2) := by decide +kernel
theorem dJ6_bitCount_0f7a4_45 : decode cJ6_bitCount_0f7a4 45 = .ok (.iushr, 1) := by decide +kernel
theorem dJ6_bitCount_0f7a4_46 : decode cJ6_bitCount_0f7a4 46 = .ok (.iadd, 1) := by decide +kernel
theorem dJ6_bitCount_0f7a4_47 : decode cJ6_bitCount_0f7a4 47 = .ok (.istore_n 0, 1) := by decide +kernel
theorem dJ6_bitCount_0f7a4_48 : decode cJ6_bitCount_0f7a4 48 = .ok (.iload_n 0, 1) := by decide +kernel
theorem dJ6_bitCount_0f7a4_49 : decode cJ6_bitCount_0f7a4 49 = .ok (.bipush 63, 2) := by decide +kernel
theorem dJ6_bitCount_0f7a4_51 : decode cJ6_bitCount_0f7a4 51 = .ok (.iand, 1) := by decide +kernel
theorem dJ6_bitCount_0f7a4_52 : decode cJ6_bitCount_0f7a4 52 = .ok (.ireturn, 1) := by decide +kernel
theorem dX2_change_0 : decode cX2_change 0 = .ok (.aload_n 0, 1) := by decide +kernel
theorem dX2_change_1 : decode cX2_change 1 = .ok (.getfield 9, 3) := by decide +kernel
theorem dX2_change_4 : decode cX2_change 4 = .ok (.iload_n 1, 1) := by decide +kernel
theorem dX2_change_5 : decode cX2_change 5 = .ok (.iaload, 1) := by decide +kernel
theorem dX2_change_6 : decode cX2_change 6 = .ok (.istore_n 3, 1) := by decide +kernel
theorem dX2_change_7 : decode cX2_change 7 = .ok (.iload_n 3, 1) := by decide +kernel
theorem dX2_change_8 : decode cX2_change 8 = .ok (.aload_n 0, 1) := by decide +kernel
theorem dX2_change_9 : decode cX2_change 9 = .ok (.getfield 9, 3) := by decide +kernel
theorem dX2_change_12 : decode cX2_change 12 = .ok (.iload_n 2, 1) := by decide +kernel
theorem dX2_change_13 : decode cX2_change 13 = .ok (.iaload, 1) := by decide +kernel
theorem dX2_change_14 : decode cX2_change 14 = .ok (.if_icmp .ne 5, 3) := by decide +kernel
theorem dX2_change_17 : decode cX2_change 17 = .ok (.iconst 0, 1) := by decide +kernel
theorem dX2_change_18 : decode cX2_change 18 = .ok (.ireturn, 1) := by decide +kernel
theorem dX2_change_19 : decode cX2_change 19 = .ok (.aload_n 0, 1) := by decide +kernel
theorem dX2_change_20 : decode cX2_change 20 = .ok (.getfield 9, 3) := by decide +kernel
theorem dX2_change_23 : decode cX2_change 23 = .ok (.iload_n 1, 1) := by decide +kernel
theorem dX2_change_24 : decode cX2_change 24 = .ok (.aload_n 0, 1) := by decide +kernel
theorem dX2_change_25 : decode cX2_change 25 = .ok (.getfield 9, 3) := by decide +kernel
theorem dX2_change_28 : decode cX2_change 28 = .ok (.iload_n 2, 1) := by decide +kernel
theorem dX2_change_29 : decode cX2_change 29 = .ok (.iaload, 1) := by decide +kernel
theorem dX2_change_30 : decode cX2_change 30 = .ok (.iastore, 1) := by decide +kernel
theorem dX2_change_31 : decode cX2_change 31 = .ok (.aload_n 0, 1) := by decide +kernel
theorem dX2_change_32 : decode cX2_change 32 = .ok (.getfield 9, 3) := by decide +kernel
theorem dX2_change_35 : decode cX2_change 35 = .ok (.iload_n 2, 1) := by decide +kernel
theorem dX2_change_36 : decode cX2_change 36 = .ok (.iload_n 3, 1) := by decide +kernel
theorem dX2_change_37 : decode cX2_change 37 = .ok (.iastore, 1) := by decide +kernel
theorem dX2_change_38 : decode cX2_change 38 = .ok (.iconst 1, 1) := by decide +kernel
theorem dX2_change_39 : decode cX2_change 39 = .ok (.ireturn, 1) := by decide +kernel
theorem dX2_leastPlace_0 : decode cX2_leastPlace 0 = .ok (.iconst (-1), 1) := by decide +kernel
theorem dX2_leastPlace_1 : decode cX2_leastPlace 1 = .ok (.istore_n 2, 1) := by decide +kernel
theorem dX2_leastPlace_2 : decode cX2_leastPlace 2 = .ok (.iload_n 1, 1) := by decide +kernel
theorem dX2_leastPlace_3 : decode cX2_leastPlace 3 = .ok (.bipush 7, 2) := by decide +kernel
theorem dX2_leastPlace_5 : decode cX2_leastPlace 5 = .ok (.imul, 1) := by decide +kernel
theorem dX2_leastPlace_6 : decode cX2_leastPlace 6 = .ok (.istore_n 3, 1) := by decide +kernel
theorem dX2_leastPlace_7 : decode cX2_leastPlace 7 = .ok (.iload_n 3, 1) := by decide +kernel
theorem dX2_leastPlace_8 : decode cX2_leastPlace 8 = .ok (.iload_n 1, 1) := by decide +kernel
theorem dX2_leastPlace_9 : decode cX2_leastPlace 9 = .ok (.bipush 7, 2) := by decide +kernel
theorem dX2_leastPlace_11 : decode cX2_leastPlace 11 = .ok (.imul, 1) := by decide +kernel
theorem dX2_leastPlace_12 : decode cX2_leastPlace 12 = .ok (.bipush 7, 2) := by decide +kernel
theorem dX2_leastPlace_14 : decode cX2_leastPlace 14 = .ok (.iadd, 1) := by decide +kernel
theorem dX2_leastPlace_15 : decode cX2_leastPlace 15 = .ok (.if_icmp .ge 40, 3) := by decide +kernel
theorem dX2_leastPlace_18 : decode cX2_leastPlace 18 = .ok (.aload_n 0, 1) := by decide +kernel
theorem dX2_leastPlace_19 : decode cX2_leastPlace 19 = .ok (.getfield 15, 3) := by decide +kernel
theorem dX2_leastPlace_22 : decode cX2_leastPlace 22 = .ok (.iload_n 3, 1) := by decide +kernel
theorem dX2_leastPlace_23 : decode cX2_leastPlace 23 = .ok (.iaload, 1) := by decide +kernel
theorem dX2_leastPlace_24 : decode cX2_leastPlace 24 = .ok (.ifCond .le 25, 3) := by decide +kernel
theorem dX2_leastPlace_27 : decode cX2_leastPlace 27 = .ok (.iload_n 2, 1) := by decide +kernel
theorem dX2_leastPlace_28 : decode cX2_leastPlace 28 = .ok (.iconst (-1), 1) := by decide +kernel
theorem dX2_leastPlace_29 : decode cX2_leastPlace 29 = .ok (.if_icmp .eq 13, 3) := by decide +kernel
theorem dX2_leastPlace_32 : decode cX2_leastPlace 32 = .ok (.aload_n 0, 1) := by decide +kernel
theorem dX2_leastPlace_33 : decode cX2_leastPlace 33 = .ok (.getfield 18, 3) := by decide +kernel
theorem dX2_leastPlace_36 : decode cX2_leastPlace 36 = .ok (.iload_n 3, 1) := by decide +kernel
theorem dX2_leastPlace_37 : decode cX2_leastPlace 37 = .ok (.iaload, 1) := by decide +kernel
theorem dX2_leastPlace_38 : decode cX2_leastPlace 38 = .ok (.iload_n 2, 1) := by decide +kernel
theorem dX2_leastPlace_39 : decode cX2_leastPlace 39 = .ok (.if_icmp .ge 10, 3) := by decide +kernel
theorem dX2_leastPlace_42 : decode cX2_leastPlace 42 = .ok (.aload_n 0, 1) := by decide +kernel
theorem dX2_leastPlace_43 : decode cX2_leastPlace 43 = .ok (.getfield 18, 3) := by decide +kernel
theorem dX2_leastPlace_46 : decode cX2_leastPlace 46 = .ok (.iload_n 3, 1) := by decide +kernel
theorem dX2_leastPlace_47 : decode cX2_leastPlace 47 = .ok (.iaload, 1) := by decide +kernel
theorem dX2_leastPlace_48 : decode cX2_leastPlace 48 = .ok (.istore_n 2, 1) := by decide +kernel
theorem dX2_leastPlace_49 : decode cX2_leastPlace 49 = .ok (.iinc 3 1, 3) := by decide +kernel
theorem dX2_leastPlace_52 : decode cX2_leastPlace 52 = .ok (.goto (-45), 3) := by decide +kernel
theorem dX2_leastPlace_55 : decode cX2_leastPlace 55 = .ok (.iload_n 2, 1) := by decide +kernel
theorem dX2_leastPlace_56 : decode cX2_leastPlace 56 = .ok (.ireturn, 1) := by decide +kernel
theorem inU_X2 : ∀ w ∈ u_ws RX2 TX2 6, w ∈ BIG := by
  have h : u_ws RX2 TX2 6 = [331, 333, 335, 337, 339, 341].filterMap (fun i => lw_tbl[i]?) := by decide +kernel
  have g : (u_ws RX2 TX2 6).all goodWord = true := by decide +kernel
  intro w hw
  refine inB ?_ (List.all_eq_true.mp g w hw)
  rw [h] at hw
  obtain ⟨i, -, hi⟩ := List.mem_filterMap.mp hw
  exact List.mem_of_getElem? hi
theorem fl_X2_9 : FL RX2 9 2 0 := ⟨RX2, TX2, 6, rfl, rfl, by decide, inU_X2, Or.inl (inBi 310 (by decide +kernel))⟩
theorem fl_X2_15 : FL RX2 15 2 1 := ⟨RX2, TX2, 6, rfl, rfl, by decide, inU_X2, Or.inl (inBi 313 (by decide +kernel))⟩
theorem fl_X2_18 : FL RX2 18 2 2 := ⟨RX2, TX2, 6, rfl, rfl, by decide, inU_X2, Or.inl (inBi 317 (by decide +kernel))⟩
theorem fl_X2_21 : FL RX2 21 2 3 := ⟨RX2, TX2, 6, rfl, rfl, by decide, inU_X2, Or.inl (inBi 321 (by decide +kernel))⟩
theorem fl_X2_24 : FL RX2 24 2 4 := ⟨RX2, TX2, 6, rfl, rfl, by decide, inU_X2, Or.inl (inBi 324 (by decide +kernel))⟩
theorem fl_X2_33 : FL RX2 33 2 5 := ⟨RX2, TX2, 6, rfl, rfl, by decide, inU_X2, Or.inl (inBi 327 (by decide +kernel))⟩
theorem fp_X2_33 : FP RX2 33 2 5 := ⟨RX2, TX2, 6, tyX2, rfl, rfl, by decide, inU_X2, Or.inl (inBi 327 (by decide +kernel)), tyX2_ok, nmX2, rfl, by decide +kernel⟩
theorem inU_X1 : ∀ w ∈ u_ws RX1 TX1 6, w ∈ BIG := by
  have h : u_ws RX1 TX1 6 = [185, 187, 189, 191, 193, 195].filterMap (fun i => lw_tbl[i]?) := by decide +kernel
  have g : (u_ws RX1 TX1 6).all goodWord = true := by decide +kernel
  intro w hw
  refine inB ?_ (List.all_eq_true.mp g w hw)
  rw [h] at hw
  obtain ⟨i, -, hi⟩ := List.mem_filterMap.mp hw
  exact List.mem_of_getElem? hi
theorem fl_X2_37 : FL RX2 37 1 0 := ⟨RX1, TX1, 6, rfl, rfl, by decide, inU_X1, Or.inr ⟨_, inNi (w := .fieldLinkNest "PartedFellows$Hall" 37 "PartedFellows$College" "much" "[I" "PartedFellows") 165 (by decide +kernel)⟩⟩
set_option maxRecDepth 20000 in
theorem cw_J7_fill_53178 : Cond.code yJ7_fill_53178 cJ7_fill_53178 4 none ∈ BIG := inB (List.mem_of_getElem? (i := 647) rfl) rfl
theorem ms_X2_42 : MS RX2 42 yJ7_fill_53178 cJ7_fill_53178 4 none 2 := ⟨Or.inl (inBi 760 (by decide +kernel)), inBi 646 (by decide +kernel), inBi 112 (by decide +kernel), cw_J7_fill_53178, by decide +kernel, by decide +kernel, by decide +kernel⟩
set_option maxRecDepth 20000 in
theorem cw_X11_sum : Cond.code yX11_sum cX11_sum 5 (some .int) ∈ BIG := inB (List.mem_of_getElem? (i := 870) rfl) rfl
theorem ms_X2_48 : MS RX2 48 yX11_sum cX11_sum 5 (some .int) 3 := ⟨Or.inr ⟨_, inNi (w := .methodLinkNest RX2 48 yX11_sum "PartedFellows") 868 (by decide +kernel)⟩, inBi 869 (by decide +kernel), inBi 95 (by decide +kernel), cw_X11_sum, by decide +kernel, by decide +kernel, by decide +kernel⟩
set_option maxRecDepth 20000 in
theorem cw_X2_allWithin : Cond.code yX2_allWithin cX2_allWithin 2 (some .int) ∈ BIG := inB (List.mem_of_getElem? (i := 867) rfl) rfl
theorem mv_X2_56 : MV RX2 56 yX2_allWithin cX2_allWithin 2 (some .int) 1 := ⟨inBi 965 (by decide +kernel), inBi 865 (by decide +kernel), inBi 866 (by decide +kernel), inBi 102 (by decide +kernel), cw_X2_allWithin, by decide +kernel, by decide +kernel, by decide +kernel⟩
set_option maxRecDepth 20000 in
theorem cw_X2_givenBy : Cond.code yX2_givenBy cX2_givenBy 5 (some .int) ∈ BIG := inB (List.mem_of_getElem? (i := 964) rfl) rfl
theorem mv_X2_52 : MV RX2 52 yX2_givenBy cX2_givenBy 5 (some .int) 2 := ⟨inBi 961 (by decide +kernel), inBi 962 (by decide +kernel), inBi 963 (by decide +kernel), inBi 102 (by decide +kernel), cw_X2_givenBy, by decide +kernel, by decide +kernel, by decide +kernel⟩
set_option maxRecDepth 20000 in
theorem cw_X2_muchWithin : Cond.code yX2_muchWithin cX2_muchWithin 2 (some .int) ∈ BIG := inB (List.mem_of_getElem? (i := 960) rfl) rfl
theorem mv_X2_71 : MV RX2 71 yX2_muchWithin cX2_muchWithin 2 (some .int) 1 := ⟨inBi 957 (by decide +kernel), inBi 958 (by decide +kernel), inBi 959 (by decide +kernel), inBi 102 (by decide +kernel), cw_X2_muchWithin, by decide +kernel, by decide +kernel, by decide +kernel⟩
set_option maxRecDepth 20000 in
theorem cw_X2_spreadOf : Cond.code yX2_spreadOf cX2_spreadOf 7 (some .int) ∈ BIG := inB (List.mem_of_getElem? (i := 954) rfl) rfl
theorem mv_X2_68 : MV RX2 68 yX2_spreadOf cX2_spreadOf 7 (some .int) 1 := ⟨inBi 951 (by decide +kernel), inBi 952 (by decide +kernel), inBi 953 (by decide +kernel), inBi 102 (by decide +kernel), cw_X2_spreadOf, by decide +kernel, by decide +kernel, by decide +kernel⟩
set_option maxRecDepth 20000 in
theorem cw_X2_isWhite : Cond.code yX2_isWhite cX2_isWhite 2 (some .boolean) ∈ BIG := inB (List.mem_of_getElem? (i := 950) rfl) rfl
theorem mv_X2_74 : MV RX2 74 yX2_isWhite cX2_isWhite 2 (some .boolean) 1 := ⟨inBi 947 (by decide +kernel), inBi 948 (by decide +kernel), inBi 949 (by decide +kernel), inBi 102 (by decide +kernel), cw_X2_isWhite, by decide +kernel, by decide +kernel, by decide +kernel⟩
def fX2_copyFrom (sh : Shp) (x0 : Nat) (x1 : Nat) (mm : Mem) : Option (Mem) :=
  (rR sh 2 x1 0).bind fun a1 =>
  (rR sh 2 x0 0).bind fun a2 =>
  (aC sh mm a1 0 a2 0 42).bind fun m3 =>
  (rR sh 2 x1 1).bind fun a4 =>
  (rR sh 2 x0 1).bind fun a5 =>
  (aC sh m3 a4 0 a5 0 42).bind fun m6 =>
  (rR sh 2 x1 2).bind fun a7 =>
  (rR sh 2 x0 2).bind fun a8 =>
  (aC sh m6 a7 0 a8 0 42).bind fun m9 =>
  (rR sh 2 x1 3).bind fun a10 =>
  (rR sh 2 x0 3).bind fun a11 =>
  (aC sh m9 a10 0 a11 0 42).bind fun m12 =>
  (rR sh 2 x1 4).bind fun a13 =>
  (rR sh 2 x0 4).bind fun a14 =>
  (aC sh m12 a13 0 a14 0 6).bind fun m15 =>
  (rI sh m15 2 x1 5).bind fun v16 =>
  (wI sh m15 2 x0 5 v16).bind fun m17 =>
  some m17
def fJ7_fill_53178_j20 (sh : Shp) (mm : Mem) : Option (Mem) :=
  some mm
def fJ7_fill_53178_b5 (sh : Shp) (x0 : Nat) (x1 : Int32) (x3 : Int32) (x2 : Int32) (mm : Mem) : Option ((Int32 × Mem) ⊕ ((Mem))) :=
  if x3 ≤ x2 then (some (.inr mm))
  else ((aS sh mm x0 x2 x1).bind fun m5 =>
  lt1 (x2 + 1) fun x2_6 =>
  some (.inl (x2_6, m5)))
def fJ7_fill_53178 (sh : Shp) (x0 : Nat) (x1 : Int32) (mm : Mem) : Option (Mem) :=
  lt1 0 fun x2_1 =>
  (aN sh x0).bind fun v2 =>
  lt1 v2 fun x3_3 =>
  (loopN (fun st : Int32 × Mem => fJ7_fill_53178_b5 sh x0 x1 x3_3 st.1 st.2) FU (x2_1, mm)).bind (fun t => fJ7_fill_53178_j20 sh t)
def fX2_open (sh : Shp) (x0 : Nat) (x1 : Nat) (mm : Mem) : Option (Mem) :=
  (rR sh 1 x1 0).bind fun a1 =>
  (rR sh 2 x0 0).bind fun a2 =>
  (aC sh mm a1 0 a2 0 42).bind fun m3 =>
  (rR sh 2 x0 1).bind fun a4 =>
  (fJ7_fill_53178 sh a4 0 m3).bind fun m5 =>
  (rR sh 2 x0 2).bind fun a6 =>
  (fJ7_fill_53178 sh a6 0 m5).bind fun m7 =>
  (rR sh 2 x0 3).bind fun a8 =>
  (fJ7_fill_53178 sh a8 0 m7).bind fun m9 =>
  (rR sh 2 x0 4).bind fun a10 =>
  (fJ7_fill_53178 sh a10 0 m9).bind fun m11 =>
  (wI sh m11 2 x0 5 0).bind fun m12 =>
  some m12
def fX2_takeOut (sh : Shp) (x0 : Nat) (x1 : Int32) (x2 : Int32) (mm : Mem) : Option (Int32 × Mem) :=
  (rR sh 2 x0 0).bind fun a1 =>
  (aL sh mm a1 x1).bind fun v2 =>
  if x2 ≤ v2 then ((rR sh 2 x0 0).bind fun a4 =>
  (aL sh mm a4 x1).bind fun v5 =>
  (aS sh mm a4 x1 (v5 - x2)).bind fun m6 =>
  (rR sh 2 x0 3).bind fun a7 =>
  (aL sh m6 a7 x1).bind fun v8 =>
  (aS sh m6 a7 x1 (v8 + x2)).bind fun m9 =>
  some (1, m9))
  else (some (0, mm))
def fX2_giveBack (sh : Shp) (x0 : Nat) (x1 : Int32) (x2 : Int32) (mm : Mem) : Option (Int32 × Mem) :=
  (rR sh 2 x0 3).bind fun a1 =>
  (aL sh mm a1 x1).bind fun v2 =>
  if x2 ≤ v2 then ((rR sh 2 x0 3).bind fun a4 =>
  (aL sh mm a4 x1).bind fun v5 =>
  (aS sh mm a4 x1 (v5 - x2)).bind fun m6 =>
  (rR sh 2 x0 0).bind fun a7 =>
  (aL sh m6 a7 x1).bind fun v8 =>
  (aS sh m6 a7 x1 (v8 + x2)).bind fun m9 =>
  some (1, m9))
  else (some (0, mm))
def fX2_change (sh : Shp) (x0 : Nat) (x1 : Int32) (x2 : Int32) (mm : Mem) : Option (Int32 × Mem) :=
  (rR sh 2 x0 0).bind fun a1 =>
  (aL sh mm a1 x1).bind fun v2 =>
  lt1 v2 fun x3_3 =>
  (rR sh 2 x0 0).bind fun a4 =>
  (aL sh mm a4 x2).bind fun v5 =>
  if x3_3 = v5 then (some (0, mm))
  else ((rR sh 2 x0 0).bind fun a7 =>
  (rR sh 2 x0 0).bind fun a8 =>
  (aL sh mm a8 x2).bind fun v9 =>
  (aS sh mm a7 x1 v9).bind fun m10 =>
  (rR sh 2 x0 0).bind fun a11 =>
  (aS sh m10 a11 x2 x3_3).bind fun m12 =>
  some (1, m12))
def fX2_passDay_j33 (sh : Shp) (x0 : Nat) (mm : Mem) : Option (Mem) :=
  (rI sh mm 2 x0 5).bind fun v1 =>
  (wI sh mm 2 x0 5 (v1 + 1)).bind fun m2 =>
  some m2
def fX2_passDay_j27 (sh : Shp) (x0 : Nat) (x1 : Int32) (mm : Mem) : Option ((Int32 × Mem) ⊕ ((Mem))) :=
  lt1 (x1 + 1) fun x1_4 =>
  some (.inl (x1_4, mm))
def fX2_passDay_b2 (sh : Shp) (x0 : Nat) (x1 : Int32) (mm : Mem) : Option ((Int32 × Mem) ⊕ ((Mem))) :=
  if 42 ≤ x1 then (some (.inr mm))
  else ((rR sh 2 x0 1).bind fun a6 =>
  (aL sh mm a6 x1).bind fun v7 =>
  if v7 ≤ 0 then (fX2_passDay_j27 sh x0 x1 mm)
  else ((rR sh 2 x0 1).bind fun a9 =>
  (aL sh mm a9 x1).bind fun v10 =>
  (aS sh mm a9 x1 (v10 - 1)).bind fun m11 =>
  fX2_passDay_j27 sh x0 x1 m11))
def fX2_passDay (sh : Shp) (x0 : Nat) (mm : Mem) : Option (Mem) :=
  lt1 0 fun x1_3 =>
  (loopN (fun st : Int32 × Mem => fX2_passDay_b2 sh x0 st.1 st.2) FU (x1_3, mm)).bind (fun t => fX2_passDay_j33 sh x0 t)
def fX11_sum_j24 (sh : Shp) (x3 : Int32) (mm : Mem) : Option (Int32) :=
  some x3
def fX11_sum_b5 (sh : Shp) (x0 : Nat) (x2 : Int32) (x3 : Int32) (x4 : Int32) (mm : Mem) : Option ((Int32 × Int32) ⊕ ((Int32))) :=
  if x2 ≤ x4 then (some (.inr x3))
  else ((aL sh mm x0 x4).bind fun v4 =>
  lt1 (x3 + v4) fun x3_5 =>
  lt1 (x4 + 1) fun x4_6 =>
  some (.inl (x3_5, x4_6)))
def fX11_sum (sh : Shp) (x0 : Nat) (x1 : Int32) (x2 : Int32) (mm : Mem) : Option (Int32) :=
  lt1 0 fun x3_1 =>
  lt1 x1 fun x4_2 =>
  (loopN (fun st : Int32 × Int32 => fX11_sum_b5 sh x0 x2 st.1 st.2 mm) FU (x3_1, x4_2)).bind (fun t => fX11_sum_j24 sh t mm)
def fX2_allWithin (sh : Shp) (x0 : Nat) (x1 : Int32) (mm : Mem) : Option (Int32) :=
  (rR sh 2 x0 0).bind fun a1 =>
  (fX11_sum sh a1 (x1 * 7) ((x1 * 7) + 7) mm).bind fun v2 =>
  some v2
def fX2_givenBy_j41 (sh : Shp) (x3 : Int32) (mm : Mem) : Option (Int32) :=
  some x3
def fX2_givenBy_j35 (sh : Shp) (x0 : Nat) (x1 : Int32) (x2 : Int32) (x3 : Int32) (x4 : Int32) (mm : Mem) : Option ((Int32 × Int32) ⊕ ((Int32))) :=
  lt1 (x4 + 1) fun x4_3 =>
  some (.inl (x3, x4_3))
def fX2_givenBy_b5 (sh : Shp) (x0 : Nat) (x1 : Int32) (x2 : Int32) (x3 : Int32) (x4 : Int32) (mm : Mem) : Option ((Int32 × Int32) ⊕ ((Int32))) :=
  if 6 ≤ x4 then (some (.inr x3))
  else (if ((x1 >>> (x4 &&& 31)) &&& 1) = 1 then ((isO sh 2 x0).bind fun _ =>
  (fX2_allWithin sh x0 x4 mm).bind fun v6 =>
  lt1 (x3 + (mnI v6 x2)) fun x3_7 =>
  fX2_givenBy_j35 sh x0 x1 x2 x3_7 x4 mm)
  else (fX2_givenBy_j35 sh x0 x1 x2 x3 x4 mm))
def fX2_givenBy (sh : Shp) (x0 : Nat) (x1 : Int32) (x2 : Int32) (mm : Mem) : Option (Int32) :=
  lt1 0 fun x3_1 =>
  lt1 0 fun x4_2 =>
  (loopN (fun st : Int32 × Int32 => fX2_givenBy_b5 sh x0 x1 x2 st.1 st.2 mm) FU (x3_1, x4_2)).bind (fun t => fX2_givenBy_j41 sh t mm)
def fX2_muchWithin (sh : Shp) (x0 : Nat) (x1 : Int32) (mm : Mem) : Option (Int32) :=
  (isO sh 2 x0).bind fun _ =>
  (fX2_givenBy sh x0 x1 1680 mm).bind fun v1 =>
  some v1
def fX2_spreadOf_j80 (sh : Shp) (x2 : Int32) (x3 : Int32) (mm : Mem) : Option (Int32) :=
  some (x2 - x3)
def fX2_spreadOf_j60 (sh : Shp) (x0 : Nat) (x1 : Int32) (x2 : Int32) (x3 : Int32) (x4 : Int32) (x5 : Int32) (mm : Mem) : Option ((Int32 × Int32 × Int32) ⊕ ((Int32 × Int32))) :=
  lt1 (mxI x2 x5) fun x2_4 =>
  lt1 (mnI x3 x5) fun x3_5 =>
  lt1 (x4 + 1) fun x4_6 =>
  some (.inl (x2_4, x3_5, x4_6))
def fX2_spreadOf_b22 (sh : Shp) (x0 : Nat) (x1 : Int32) (x2 : Int32) (x3 : Int32) (x4 : Int32) (x5 : Int32) (x6 : Int32) (mm : Mem) : Option ((Int32 × Int32) ⊕ ((Int32))) :=
  if 6 ≤ x6 then (some (.inr x5))
  else ((rR sh 2 x0 0).bind fun a11 =>
  (aL sh mm a11 ((x6 * 7) + x4)).bind fun v12 =>
  lt1 (x5 + (((x1 >>> (x6 &&& 31)) &&& 1) * v12)) fun x5_13 =>
  lt1 (x6 + 1) fun x6_14 =>
  some (.inl (x5_13, x6_14)))
def fX2_spreadOf_b9 (sh : Shp) (x0 : Nat) (x1 : Int32) (x2 : Int32) (x3 : Int32) (x4 : Int32) (mm : Mem) : Option ((Int32 × Int32 × Int32) ⊕ ((Int32 × Int32))) :=
  if 7 ≤ x4 then (some (.inr (x2, x3)))
  else (lt1 0 fun x5_8 =>
  lt1 0 fun x6_9 =>
  (loopN (fun st : Int32 × Int32 => fX2_spreadOf_b22 sh x0 x1 x2 x3 x4 st.1 st.2 mm) FU (x5_8, x6_9)).bind (fun t => fX2_spreadOf_j60 sh x0 x1 x2 x3 x4 t mm))
def fX2_spreadOf (sh : Shp) (x0 : Nat) (x1 : Int32) (mm : Mem) : Option (Int32) :=
  lt1 0 fun x2_1 =>
  lt1 1680 fun x3_2 =>
  lt1 0 fun x4_3 =>
  (loopN (fun st : Int32 × Int32 × Int32 => fX2_spreadOf_b9 sh x0 x1 st.1 st.2.1 st.2.2 mm) FU (x2_1, x3_2, x4_3)).bind (fun t => fX2_spreadOf_j80 sh t.1 t.2 mm)
def fX2_isWhite_j21 (sh : Shp) (s0 : Int32) (mm : Mem) : Option (Int32) :=
  (ckZ s0).bind fun v1 => some v1
def fX2_isWhite_j20 (sh : Shp) (mm : Mem) : Option (Int32) :=
  fX2_isWhite_j21 sh 0 mm
def fX2_isWhite (sh : Shp) (x0 : Nat) (x1 : Int32) (mm : Mem) : Option (Int32) :=
  (isO sh 2 x0).bind fun _ =>
  (fX2_spreadOf sh x0 x1 mm).bind fun v2 =>
  if v2 = 0 then ((isO sh 2 x0).bind fun _ =>
  (fX2_muchWithin sh x0 x1 mm).bind fun v4 =>
  if v4 ≤ 0 then (fX2_isWhite_j20 sh mm)
  else (fX2_isWhite_j21 sh 1 mm))
  else (fX2_isWhite_j20 sh mm)
def fX2_whiteBits_j32 (sh : Shp) (x1 : Int32) (mm : Mem) : Option (Int32) :=
  some x1
def fX2_whiteBits_j26 (sh : Shp) (x0 : Nat) (x1 : Int32) (x2 : Int32) (mm : Mem) : Option ((Int32 × Int32) ⊕ ((Int32))) :=
  lt1 (x2 + 1) fun x2_3 =>
  some (.inl (x1, x2_3))
def fX2_whiteBits_b4 (sh : Shp) (x0 : Nat) (x1 : Int32) (x2 : Int32) (mm : Mem) : Option ((Int32 × Int32) ⊕ ((Int32))) :=
  if 6 ≤ x2 then (some (.inr x1))
  else ((isO sh 2 x0).bind fun _ =>
  (fX2_isWhite sh x0 (1 <<< (x2 &&& 31)) mm).bind fun v5 =>
  if v5 = 0 then (fX2_whiteBits_j26 sh x0 x1 x2 mm)
  else (lt1 (x1 ||| (1 <<< (x2 &&& 31))) fun x1_7 =>
  fX2_whiteBits_j26 sh x0 x1_7 x2 mm))
def fX2_whiteBits (sh : Shp) (x0 : Nat) (mm : Mem) : Option (Int32) :=
  lt1 0 fun x1_1 =>
  lt1 0 fun x2_2 =>
  (loopN (fun st : Int32 × Int32 => fX2_whiteBits_b4 sh x0 st.1 st.2 mm) FU (x1_1, x2_2)).bind (fun t => fX2_whiteBits_j32 sh t mm)
def fX2_darkBits_j50 (sh : Shp) (x2 : Int32) (mm : Mem) : Option (Int32) :=
  some x2
def fX2_darkBits_j44 (sh : Shp) (x0 : Nat) (x1 : Int32) (x2 : Int32) (x3 : Int32) (mm : Mem) : Option ((Int32 × Int32) ⊕ ((Int32))) :=
  lt1 (x3 + 1) fun x3_3 =>
  some (.inl (x2, x3_3))
def fX2_darkBits_b4 (sh : Shp) (x0 : Nat) (x1 : Int32) (x2 : Int32) (x3 : Int32) (mm : Mem) : Option ((Int32 × Int32) ⊕ ((Int32))) :=
  if 7 ≤ x3 then (some (.inr x2))
  else (lt1 ((x1 * 7) + x3) fun x4_5 =>
  (rR sh 2 x0 0).bind fun a6 =>
  (aL sh mm a6 x4_5).bind fun v7 =>
  if v7 = 0 then ((rR sh 2 x0 1).bind fun a9 =>
  (aL sh mm a9 x4_5).bind fun v10 =>
  if v10 = 0 then (lt1 (x2 ||| (1 <<< (x3 &&& 31))) fun x2_12 =>
  fX2_darkBits_j44 sh x0 x1 x2_12 x3 mm)
  else (fX2_darkBits_j44 sh x0 x1 x2 x3 mm))
  else (fX2_darkBits_j44 sh x0 x1 x2 x3 mm))
def fX2_darkBits (sh : Shp) (x0 : Nat) (x1 : Int32) (mm : Mem) : Option (Int32) :=
  lt1 0 fun x2_1 =>
  lt1 0 fun x3_2 =>
  (loopN (fun st : Int32 × Int32 => fX2_darkBits_b4 sh x0 x1 st.1 st.2 mm) FU (x2_1, x3_2)).bind (fun t => fX2_darkBits_j50 sh t mm)
def fX2_litBits_j35 (sh : Shp) (x2 : Int32) (mm : Mem) : Option (Int32) :=
  some x2
def fX2_litBits_j29 (sh : Shp) (x0 : Nat) (x1 : Int32) (x2 : Int32) (x3 : Int32) (mm : Mem) : Option ((Int32 × Int32) ⊕ ((Int32))) :=
  lt1 (x3 + 1) fun x3_3 =>
  some (.inl (x2, x3_3))
def fX2_litBits_b4 (sh : Shp) (x0 : Nat) (x1 : Int32) (x2 : Int32) (x3 : Int32) (mm : Mem) : Option ((Int32 × Int32) ⊕ ((Int32))) :=
  if 42 ≤ x3 then (some (.inr x2))
  else ((rR sh 2 x0 1).bind fun a5 =>
  (aL sh mm a5 x3).bind fun v6 =>
  if v6 ≤ x1 then (fX2_litBits_j29 sh x0 x1 x2 x3 mm)
  else ((dvI x3 7).bind fun v8 =>
  lt1 (x2 ||| (1 <<< (v8 &&& 31))) fun x2_9 =>
  fX2_litBits_j29 sh x0 x1 x2_9 x3 mm))
def fX2_litBits (sh : Shp) (x0 : Nat) (x1 : Int32) (mm : Mem) : Option (Int32) :=
  lt1 0 fun x2_1 =>
  lt1 0 fun x3_2 =>
  (loopN (fun st : Int32 × Int32 => fX2_litBits_b4 sh x0 x1 st.1 st.2 mm) FU (x2_1, x3_2)).bind (fun t => fX2_litBits_j35 sh t mm)
def fX2_wallAfter_j31 (sh : Shp) (x2 : Int32) (mm : Mem) : Option (Int32) :=
  some x2
def fX2_wallAfter_b4 (sh : Shp) (x0 : Nat) (x1 : Int32) (x2 : Int32) (x3 : Int32) (mm : Mem) : Option ((Int32 × Int32) ⊕ ((Int32))) :=
  if 42 ≤ x3 then (some (.inr x2))
  else ((rR sh 2 x0 1).bind fun a4 =>
  (aL sh mm a4 x3).bind fun v5 =>
  lt1 (x2 + (mxI 0 (v5 - x1))) fun x2_6 =>
  lt1 (x3 + 1) fun x3_7 =>
  some (.inl (x2_6, x3_7)))
def fX2_wallAfter (sh : Shp) (x0 : Nat) (x1 : Int32) (mm : Mem) : Option (Int32) :=
  lt1 0 fun x2_1 =>
  lt1 0 fun x3_2 =>
  (loopN (fun st : Int32 × Int32 => fX2_wallAfter_b4 sh x0 x1 st.1 st.2 mm) FU (x2_1, x3_2)).bind (fun t => fX2_wallAfter_j31 sh t mm)
def fX2_leastPlace_j55 (sh : Shp) (x2 : Int32) (mm : Mem) : Option (Int32) :=
  some x2
def fX2_leastPlace_j49 (sh : Shp) (x0 : Nat) (x1 : Int32) (x2 : Int32) (x3 : Int32) (mm : Mem) : Option ((Int32 × Int32) ⊕ ((Int32))) :=
  lt1 (x3 + 1) fun x3_3 =>
  some (.inl (x2, x3_3))
def fX2_leastPlace_j42 (sh : Shp) (x0 : Nat) (x1 : Int32) (x3 : Int32) (mm : Mem) : Option ((Int32 × Int32) ⊕ ((Int32))) :=
  (rR sh 2 x0 2).bind fun a4 =>
  (aL sh mm a4 x3).bind fun v5 =>
  lt1 v5 fun x2_6 =>
  fX2_leastPlace_j49 sh x0 x1 x2_6 x3 mm
def fX2_leastPlace_b7 (sh : Shp) (x0 : Nat) (x1 : Int32) (x2 : Int32) (x3 : Int32) (mm : Mem) : Option ((Int32 × Int32) ⊕ ((Int32))) :=
  if ((x1 * 7) + 7) ≤ x3 then (some (.inr x2))
  else ((rR sh 2 x0 1).bind fun a8 =>
  (aL sh mm a8 x3).bind fun v9 =>
  if v9 ≤ 0 then (fX2_leastPlace_j49 sh x0 x1 x2 x3 mm)
  else (if x2 = (-1) then (fX2_leastPlace_j42 sh x0 x1 x3 mm)
  else ((rR sh 2 x0 2).bind fun a12 =>
  (aL sh mm a12 x3).bind fun v13 =>
  if x2 ≤ v13 then (fX2_leastPlace_j49 sh x0 x1 x2 x3 mm)
  else (fX2_leastPlace_j42 sh x0 x1 x3 mm))))
def fX2_leastPlace (sh : Shp) (x0 : Nat) (x1 : Int32) (mm : Mem) : Option (Int32) :=
  lt1 (-1) fun x2_1 =>
  lt1 (x1 * 7) fun x3_2 =>
  (loopN (fun st : Int32 × Int32 => fX2_leastPlace_b7 sh x0 x1 st.1 st.2 mm) FU (x2_1, x3_2)).bind (fun t => fX2_leastPlace_j55 sh t mm)
def fX2_greatestPlace_j44 (sh : Shp) (x2 : Int32) (mm : Mem) : Option (Int32) :=
  some x2
def fX2_greatestPlace_j38 (sh : Shp) (x0 : Nat) (x1 : Int32) (x2 : Int32) (x3 : Int32) (mm : Mem) : Option ((Int32 × Int32) ⊕ ((Int32))) :=
  lt1 (x3 + 1) fun x3_3 =>
  some (.inl (x2, x3_3))
def fX2_greatestPlace_b7 (sh : Shp) (x0 : Nat) (x1 : Int32) (x2 : Int32) (x3 : Int32) (mm : Mem) : Option ((Int32 × Int32) ⊕ ((Int32))) :=
  if ((x1 * 7) + 7) ≤ x3 then (some (.inr x2))
  else ((rR sh 2 x0 1).bind fun a5 =>
  (aL sh mm a5 x3).bind fun v6 =>
  if v6 ≤ 0 then (fX2_greatestPlace_j38 sh x0 x1 x2 x3 mm)
  else ((rR sh 2 x0 2).bind fun a8 =>
  (aL sh mm a8 x3).bind fun v9 =>
  lt1 (mxI x2 v9) fun x2_10 =>
  fX2_greatestPlace_j38 sh x0 x1 x2_10 x3 mm))
def fX2_greatestPlace (sh : Shp) (x0 : Nat) (x1 : Int32) (mm : Mem) : Option (Int32) :=
  lt1 (-1) fun x2_1 =>
  lt1 (x1 * 7) fun x3_2 =>
  (loopN (fun st : Int32 × Int32 => fX2_greatestPlace_b7 sh x0 x1 st.1 st.2 mm) FU (x2_1, x3_2)).bind (fun t => fX2_greatestPlace_j44 sh t mm)
def fX2_muchNear_j44 (sh : Shp) (x3 : Int32) (mm : Mem) : Option (Int32) :=
  some x3
def fX2_muchNear_j38 (sh : Shp) (x0 : Nat) (x1 : Int32) (x2 : Int32) (x3 : Int32) (x4 : Int32) (mm : Mem) : Option ((Int32 × Int32) ⊕ ((Int32))) :=
  lt1 (x4 + 1) fun x4_3 =>
  some (.inl (x3, x4_3))
def fX2_muchNear_b5 (sh : Shp) (x0 : Nat) (x1 : Int32) (x2 : Int32) (x3 : Int32) (x4 : Int32) (mm : Mem) : Option ((Int32 × Int32) ⊕ ((Int32))) :=
  if 42 ≤ x4 then (some (.inr x3))
  else ((rR sh 2 x0 2).bind fun a5 =>
  (aL sh mm a5 x4).bind fun v6 =>
  if x2 < (abI (v6 - x1)) then (fX2_muchNear_j38 sh x0 x1 x2 x3 x4 mm)
  else ((rR sh 2 x0 1).bind fun a8 =>
  (aL sh mm a8 x4).bind fun v9 =>
  lt1 (x3 + v9) fun x3_10 =>
  fX2_muchNear_j38 sh x0 x1 x2 x3_10 x4 mm))
def fX2_muchNear (sh : Shp) (x0 : Nat) (x1 : Int32) (x2 : Int32) (mm : Mem) : Option (Int32) :=
  lt1 0 fun x3_1 =>
  lt1 0 fun x4_2 =>
  (loopN (fun st : Int32 × Int32 => fX2_muchNear_b5 sh x0 x1 x2 st.1 st.2 mm) FU (x3_1, x4_2)).bind (fun t => fX2_muchNear_j44 sh t mm)
def fX2_mostPart_j43 (sh : Shp) (x2 : Int32) (mm : Mem) : Option (Int32) :=
  some x2
def fX2_mostPart_j37 (sh : Shp) (x0 : Nat) (x1 : Int32) (x2 : Int32) (x3 : Int32) (mm : Mem) : Option ((Int32 × Int32) ⊕ ((Int32))) :=
  lt1 (x3 + 1) fun x3_3 =>
  some (.inl (x2, x3_3))
def fX2_mostPart_b4 (sh : Shp) (x0 : Nat) (x1 : Int32) (x2 : Int32) (x3 : Int32) (mm : Mem) : Option ((Int32 × Int32) ⊕ ((Int32))) :=
  if 7 ≤ x3 then (some (.inr x2))
  else ((rR sh 2 x0 0).bind fun a5 =>
  (aL sh mm a5 ((x1 * 7) + x3)).bind fun v6 =>
  (rR sh 2 x0 0).bind fun a7 =>
  (aL sh mm a7 ((x1 * 7) + x2)).bind fun v8 =>
  if v6 ≤ v8 then (fX2_mostPart_j37 sh x0 x1 x2 x3 mm)
  else (lt1 x3 fun x2_10 =>
  fX2_mostPart_j37 sh x0 x1 x2_10 x3 mm))
def fX2_mostPart (sh : Shp) (x0 : Nat) (x1 : Int32) (mm : Mem) : Option (Int32) :=
  lt1 0 fun x2_1 =>
  lt1 1 fun x3_2 =>
  (loopN (fun st : Int32 × Int32 => fX2_mostPart_b4 sh x0 x1 st.1 st.2 mm) FU (x2_1, x3_2)).bind (fun t => fX2_mostPart_j43 sh t mm)
def fX2_isBlurred_j73 (sh : Shp) (mm : Mem) : Option (Int32) :=
  some 0
def fX2_isBlurred_j59 (sh : Shp) (mm : Mem) : Option (Int32) :=
  some 1
def fX2_isBlurred_j67 (sh : Shp) (x0 : Nat) (x1 : Int32) (x2 : Int32) (mm : Mem) : Option ((Int32) ⊕ ((Unit) ⊕ (Unit))) :=
  lt1 (x2 + 1) fun x2_2 =>
  some (.inl x2_2)
def fX2_isBlurred_j61 (sh : Shp) (x0 : Nat) (x1 : Int32) (x2 : Int32) (x3 : Int32) (mm : Mem) : Option ((Int32) ⊕ ((Unit) ⊕ (Unit))) :=
  lt1 (x3 + 1) fun x3_5 =>
  some (.inl x3_5)
def fX2_isBlurred_b21 (sh : Shp) (x0 : Nat) (x1 : Int32) (x2 : Int32) (x3 : Int32) (mm : Mem) : Option ((Int32) ⊕ ((Unit) ⊕ (Unit))) :=
  if x2 ≤ x3 then (some (.inr (Sum.inr (()))))
  else ((rR sh 2 x0 1).bind fun a7 =>
  (aL sh mm a7 x2).bind fun v8 =>
  if v8 ≤ 0 then (fX2_isBlurred_j61 sh x0 x1 x2 x3 mm)
  else ((rR sh 2 x0 1).bind fun a10 =>
  (aL sh mm a10 x3).bind fun v11 =>
  if v11 ≤ 0 then (fX2_isBlurred_j61 sh x0 x1 x2 x3 mm)
  else ((rR sh 2 x0 2).bind fun a13 =>
  (aL sh mm a13 x2).bind fun v14 =>
  (rR sh 2 x0 2).bind fun a15 =>
  (aL sh mm a15 x3).bind fun v16 =>
  if v14 = v16 then (some (.inr (Sum.inl ())))
  else (fX2_isBlurred_j61 sh x0 x1 x2 x3 mm))))
def fX2_isBlurred_b5 (sh : Shp) (x0 : Nat) (x1 : Int32) (x2 : Int32) (mm : Mem) : Option ((Int32) ⊕ ((Unit) ⊕ (Unit))) :=
  if ((x1 * 7) + 7) ≤ x2 then (some (.inr (Sum.inr (()))))
  else (lt1 (x1 * 7) fun x3_4 =>
  (loopN (fun st : Int32 => fX2_isBlurred_b21 sh x0 x1 x2 st mm) FU x3_4).bind (Sum.elim (fun t => some (.inr (Sum.inl ()))) (fun t => fX2_isBlurred_j67 sh x0 x1 x2 mm)))
def fX2_isBlurred (sh : Shp) (x0 : Nat) (x1 : Int32) (mm : Mem) : Option (Int32) :=
  lt1 (x1 * 7) fun x2_1 =>
  (loopN (fun st : Int32 => fX2_isBlurred_b5 sh x0 x1 st mm) FU x2_1).bind (Sum.elim (fun t => fX2_isBlurred_j59 sh mm) (fun t => fX2_isBlurred_j73 sh mm))
def fJ6_bitCount_0f7a4 (x0 : Int32) : Option (Int32) :=
  lt1 (x0 - ((uShr x0 1) &&& 1431655765)) fun x0_1 =>
  lt1 ((x0_1 &&& 858993459) + ((uShr x0_1 2) &&& 858993459)) fun x0_2 =>
  lt1 ((x0_2 + (uShr x0_2 4)) &&& 252645135) fun x0_3 =>
  lt1 (x0_3 + (uShr x0_3 8)) fun x0_4 =>
  lt1 (x0_4 + (uShr x0_4 16)) fun x0_5 =>
  some (x0_5 &&& 63)
set_option maxHeartbeats 4000000 in
set_option maxRecDepth 100000 in
theorem wX2_copyFrom {p : Program} {l : Launch} {e : Env} {R : Room} {s : State} {m : MethodId} {args : Array Value} {below : List Frame} {meth : Method} {c : Code} {Q : State → Prop} {E : Ev} (X : Cx p s m args c cX2_copyFrom RX2 E) (hml : c.maxLocals = 2) (hR : 1 ≤ R.frames ∧ 60 ≤ R.locals) {x0 : Nat} {x1 : Nat} {mm : Mem} {mm1 : Mem} (hf : fX2_copyFrom (eS E) x0 x1 mm = some mm1) (hret : ∀ (pc : Nat) (H : Heap) (locs : List Loc) (ls : Array Slot), decode cX2_copyFrom pc = .ok (.return_, 1) → wS E s mm1 H locs → W p l e R s m args below meth c H locs 0 0 Q (F0 m pc ls [])) : ∀ (H : Heap) (locs : List Loc) (ls : Array Slot), wS E s mm H locs → lv_has ls 2 [(0, .ref x0), (1, .ref x1)] → W p l e R s m args below meth c H locs 0 0 Q (F0 m 0 ls []) := by
  have hx := X.1
  have hb := X.2.1
  have hR1 := hR.1
  have hR2 := hR.2
  have hRa : 1 ≤ R.frames := by omega
  have hRb : 60 ≤ R.locals := by omega
  unfold fX2_copyFrom at hf
  intro H locs ls hS hl
  refine lv_aload_n hx hb dX2_copyFrom_0 rfl (lv_at hl 1 rfl) ?_
  obtain ⟨a1, h1, hf⟩ := bs hf
  refine am_gr X hS fl_X2_9 rfl h1 dX2_copyFrom_1 ?_
  refine lv_iconst (v := 0) hx hb dX2_copyFrom_4 (by decide) ?_
  refine lv_aload_n hx hb dX2_copyFrom_5 rfl (lv_at hl 0 rfl) ?_
  obtain ⟨a2, h1, hf⟩ := bs hf
  refine am_gr X hS fl_X2_9 rfl h1 dX2_copyFrom_6 ?_
  refine lv_iconst (v := 0) hx hb dX2_copyFrom_9 (by decide) ?_
  refine lv_bipush (v := 42) hx hb dX2_copyFrom_10 (by decide) ?_
  obtain ⟨m3, h1, hf⟩ := bs hf
  refine am_cpy X (hml.trans hl.1.symm) hS h1 (inBi 519 (by decide +kernel)) (inBi 521 (by decide +kernel)) (inBi 520 (by decide +kernel)) (inBi 118 (by decide +kernel)) (Nat.le_trans (by decide) hRa) (Nat.le_trans (by decide) hRb) dX2_copyFrom_12 (fun H locs hS => ?_)
  refine lv_aload_n hx hb dX2_copyFrom_15 rfl (lv_at hl 1 rfl) ?_
  obtain ⟨a4, h1, hf⟩ := bs hf
  refine am_gr X hS fl_X2_15 rfl h1 dX2_copyFrom_16 ?_
  refine lv_iconst (v := 0) hx hb dX2_copyFrom_19 (by decide) ?_
  refine lv_aload_n hx hb dX2_copyFrom_20 rfl (lv_at hl 0 rfl) ?_
  obtain ⟨a5, h1, hf⟩ := bs hf
  refine am_gr X hS fl_X2_15 rfl h1 dX2_copyFrom_21 ?_
  refine lv_iconst (v := 0) hx hb dX2_copyFrom_24 (by decide) ?_
  refine lv_bipush (v := 42) hx hb dX2_copyFrom_25 (by decide) ?_
  obtain ⟨m6, h1, hf⟩ := bs hf
  refine am_cpy X (hml.trans hl.1.symm) hS h1 (inBi 519 (by decide +kernel)) (inBi 521 (by decide +kernel)) (inBi 520 (by decide +kernel)) (inBi 118 (by decide +kernel)) (Nat.le_trans (by decide) hRa) (Nat.le_trans (by decide) hRb) dX2_copyFrom_27 (fun H locs hS => ?_)
  refine lv_aload_n hx hb dX2_copyFrom_30 rfl (lv_at hl 1 rfl) ?_
  obtain ⟨a7, h1, hf⟩ := bs hf
  refine am_gr X hS fl_X2_18 rfl h1 dX2_copyFrom_31 ?_
  refine lv_iconst (v := 0) hx hb dX2_copyFrom_34 (by decide) ?_
  refine lv_aload_n hx hb dX2_copyFrom_35 rfl (lv_at hl 0 rfl) ?_
  obtain ⟨a8, h1, hf⟩ := bs hf
  refine am_gr X hS fl_X2_18 rfl h1 dX2_copyFrom_36 ?_
  refine lv_iconst (v := 0) hx hb dX2_copyFrom_39 (by decide) ?_
  refine lv_bipush (v := 42) hx hb dX2_copyFrom_40 (by decide) ?_
  obtain ⟨m9, h1, hf⟩ := bs hf
  refine am_cpy X (hml.trans hl.1.symm) hS h1 (inBi 519 (by decide +kernel)) (inBi 521 (by decide +kernel)) (inBi 520 (by decide +kernel)) (inBi 118 (by decide +kernel)) (Nat.le_trans (by decide) hRa) (Nat.le_trans (by decide) hRb) dX2_copyFrom_42 (fun H locs hS => ?_)
  refine lv_aload_n hx hb dX2_copyFrom_45 rfl (lv_at hl 1 rfl) ?_
  obtain ⟨a10, h1, hf⟩ := bs hf
  refine am_gr X hS fl_X2_21 rfl h1 dX2_copyFrom_46 ?_
  refine lv_iconst (v := 0) hx hb dX2_copyFrom_49 (by decide) ?_
  refine lv_aload_n hx hb dX2_copyFrom_50 rfl (lv_at hl 0 rfl) ?_
  obtain ⟨a11, h1, hf⟩ := bs hf
  refine am_gr X hS fl_X2_21 rfl h1 dX2_copyFrom_51 ?_
  refine lv_iconst (v := 0) hx hb dX2_copyFrom_54 (by decide) ?_
  refine lv_bipush (v := 42) hx hb dX2_copyFrom_55 (by decide) ?_
  obtain ⟨m12, h1, hf⟩ := bs hf
  refine am_cpy X (hml.trans hl.1.symm) hS h1 (inBi 519 (by decide +kernel)) (inBi 521 (by decide +kernel)) (inBi 520 (by decide +kernel)) (inBi 118 (by decide +kernel)) (Nat.le_trans (by decide) hRa) (Nat.le_trans (by decide) hRb) dX2_copyFrom_57 (fun H locs hS => ?_)
  refine lv_aload_n hx hb dX2_copyFrom_60 rfl (lv_at hl 1 rfl) ?_
  obtain ⟨a13, h1, hf⟩ := bs hf
  refine am_gr X hS fl_X2_24 rfl h1 dX2_copyFrom_61 ?_
  refine lv_iconst (v := 0) hx hb dX2_copyFrom_64 (by decide) ?_
  refine lv_aload_n hx hb dX2_copyFrom_65 rfl (lv_at hl 0 rfl) ?_
  obtain ⟨a14, h1, hf⟩ := bs hf
  refine am_gr X hS fl_X2_24 rfl h1 dX2_copyFrom_66 ?_
  refine lv_iconst (v := 0) hx hb dX2_copyFrom_69 (by decide) ?_
  refine lv_bipush (v := 6) hx hb dX2_copyFrom_70 (by decide) ?_
  obtain ⟨m15, h1, hf⟩ := bs hf
  refine am_cpy X (hml.trans hl.1.symm) hS h1 (inBi 519 (by decide +kernel)) (inBi 521 (by decide +kernel)) (inBi 520 (by decide +kernel)) (inBi 118 (by decide +kernel)) (Nat.le_trans (by decide) hRa) (Nat.le_trans (by decide) hRb) dX2_copyFrom_72 (fun H locs hS => ?_)
  refine lv_aload_n hx hb dX2_copyFrom_75 rfl (lv_at hl 0 rfl) ?_
  refine lv_aload_n hx hb dX2_copyFrom_76 rfl (lv_at hl 1 rfl) ?_
  obtain ⟨v16, h1, hf⟩ := bs hf
  refine am_gi X hS fl_X2_33 rfl h1 dX2_copyFrom_77 ?_
  obtain ⟨m17, h1, hf⟩ := bs hf
  refine am_pi X hS fp_X2_33 rfl h1 dX2_copyFrom_80 (fun H locs hS => ?_)
  cases hf
  exact hret _ _ _ _ dX2_copyFrom_83 hS
set_option maxRecDepth 100000 in
theorem cX2_copyFrom_ok {l : Launch} {E : Ev} {x0 : Nat} {x1 : Nat} {mm : Mem} {mm1 : Mem} (hf : fX2_copyFrom (eS E) x0 x1 mm = some mm1) : CtV l yX2_copyFrom cX2_copyFrom 2 none (1) (60) E [.ref x0, .ref x1] mm mm1 := by
  refine Met.ofW (cc := cX2_copyFrom) (maxL := 2) (ret := none) (by decide) rfl ?_
  intro p e s m args below meth c s₁ B hml hv
  obtain ⟨rfl, X, hS, hr, hlocks⟩ := am_in B hv
  refine am_entry (Nat.le_of_ble_eq_true rfl) (fun ls hl => ?_)
  exact wX2_copyFrom X hml ⟨Nat.le_refl _, Nat.le_refl _⟩ hf (fun pc H locs ls hd hS => am_rv X hS hr hd hlocks) _ _ ls hS hl
set_option maxHeartbeats 4000000 in
set_option maxRecDepth 100000 in
theorem wJ7_fill_53178 {p : Program} {l : Launch} {e : Env} {R : Room} {s : State} {m : MethodId} {args : Array Value} {below : List Frame} {meth : Method} {c : Code} {Q : State → Prop} {E : Ev} (X : Cx p s m args c cJ7_fill_53178 RJ7 E) (hml : c.maxLocals = 4) (hR : 0 ≤ R.frames ∧ 0 ≤ R.locals) {x0 : Nat} {x1 : Int32} {mm : Mem} {mm1 : Mem} (hf : fJ7_fill_53178 (eS E) x0 x1 mm = some mm1) (hret : ∀ (pc : Nat) (H : Heap) (locs : List Loc) (ls : Array Slot), decode cJ7_fill_53178 pc = .ok (.return_, 1) → wS E s mm1 H locs → W p l e R s m args below meth c H locs 0 0 Q (F0 m pc ls [])) : ∀ (H : Heap) (locs : List Loc) (ls : Array Slot), wS E s mm H locs → lv_has ls 4 [(0, .ref x0), (1, .int x1)] → W p l e R s m args below meth c H locs 0 0 Q (F0 m 0 ls []) := by
  have hx := X.1
  have hb := X.2.1
  have hR1 := hR.1
  have hR2 := hR.2
  have hRa : 0 ≤ R.frames := by omega
  have hRb : 0 ≤ R.locals := by omega
  unfold fJ7_fill_53178 at hf
  have hj20 : ∀ (mm : Mem) (H : Heap) (locs : List Loc) (ls : Array Slot), fJ7_fill_53178_j20 (eS E) mm = some mm1 → wS E s mm H locs → lv_has ls 4 [] → W p l e R s m args below meth c H locs 0 0 Q (F0 m 20 ls []) := by
    intro mm H locs ls hf hS hl
    unfold fJ7_fill_53178_j20 at hf
    cases hf
    exact hret _ _ _ _ dJ7_fill_53178_20 hS
  intro H locs ls hS hl
  refine lv_iconst (v := 0) hx hb dJ7_fill_53178_0 (by decide) ?_
  refine lv_topi (fun x2_1 e1 => ?_)
  have hf := lt1_n e1 hf
  refine lv_istore_n (lv' := [(2, .int x2_1), (0, .ref x0), (1, .int x1)]) hx hb dJ7_fill_53178_1 rfl hl (by decide) rfl (fun ls hl => ?_)
  refine lv_aload_n hx hb dJ7_fill_53178_2 rfl (lv_at hl 1 rfl) ?_
  obtain ⟨v2, h1, hf⟩ := bs hf
  refine am_len X hS h1 dJ7_fill_53178_3 ?_
  refine lv_topi (fun x3_3 e1 => ?_)
  have hf := lt1_n e1 hf
  refine lv_istore_n (lv' := [(3, .int x3_3), (2, .int x2_1), (0, .ref x0), (1, .int x1)]) hx hb dJ7_fill_53178_4 rfl hl (by decide) rfl (fun ls hl => ?_)
  obtain ⟨ex5, hl5, hk5⟩ := bs hf
  refine loop_W (P := fun st => ∀ (H : Heap) (locs : List Loc) (ls : Array Slot), wS E s st.2 H locs → lv_has ls 4 [(0, .ref x0), (1, .int x1), (2, .int st.1), (3, .int x3_3)] → W p l e R s m args below meth c H locs 0 0 Q (F0 m 5 ls [])) (ex := ex5) ?_ FU _ hl5 H locs ls hS (lv_sub hl [2, 3, 1, 0] rfl)
  intro st y5 hf hyL5 hyR5 H locs ls hS hl
  obtain ⟨x2, mm⟩ := st
  obtain ⟨x3, rfl⟩ : ∃ z, z = x3_3 := ⟨_, rfl⟩
  have hf : fJ7_fill_53178_b5 (eS E) x0 x1 x3 x2 mm = some y5 := hf
  have hS : wS E s mm H locs := hS
  have hl : lv_has ls 4 [(0, .ref x0), (1, .int x1), (2, .int x2), (3, .int x3)] := hl
  unfold fJ7_fill_53178_b5 at hf
  refine lv_iload_n hx hb dJ7_fill_53178_5 rfl (lv_at hl 2 rfl) ?_
  refine lv_iload_n hx hb dJ7_fill_53178_6 rfl (lv_at hl 3 rfl) ?_
  refine lv_icmp_ge (tgt := 20) hx hb dJ7_fill_53178_7 (by decide) (fun q4 => ?_) (fun q4 => ?_)
  · have hf := ifp hf q4
    obtain rfl : mm = ex5 := hyR5 _ (Option.some.inj hf).symm
    exact hj20 mm H locs ls hk5 hS (lv_sub hl [] rfl)
  · have hf := ifn hf q4
    refine lv_aload_n hx hb dJ7_fill_53178_10 rfl (lv_at hl 0 rfl) ?_
    refine lv_iload_n hx hb dJ7_fill_53178_11 rfl (lv_at hl 2 rfl) ?_
    refine lv_iload_n hx hb dJ7_fill_53178_12 rfl (lv_at hl 1 rfl) ?_
    obtain ⟨m5, h1, hf⟩ := bs hf
    refine am_ast X hS h1 dJ7_fill_53178_13 (fun H locs hS => ?_)
    obtain ⟨x2_6, e1⟩ : ∃ z : Int32, z = x2 + 1 := ⟨_, rfl⟩
    have hf := lt1_n e1 hf
    refine lv_iinc (v := x2_6) (lv' := [(2, .int x2_6), (0, .ref x0), (1, .int x1), (3, .int x3)]) hx hb dJ7_fill_53178_14 hl (k := 2) rfl (by rw [e1]; rfl) (by decide) rfl (fun ls hl => ?_)
    refine lv_goto (tgt := 5) hx hb dJ7_fill_53178_17 (by decide) ?_
    exact hyL5 _ (Option.some.inj hf).symm H locs ls hS (lv_sub hl [1, 2, 0, 3] rfl)
set_option maxRecDepth 100000 in
theorem cJ7_fill_53178_ok {l : Launch} {E : Ev} {x0 : Nat} {x1 : Int32} {mm : Mem} {mm1 : Mem} (hf : fJ7_fill_53178 (eS E) x0 x1 mm = some mm1) : CtV l yJ7_fill_53178 cJ7_fill_53178 4 none (0) (0) E [.ref x0, .int x1] mm mm1 := by
  refine Met.ofW (cc := cJ7_fill_53178) (maxL := 4) (ret := none) (by decide) rfl ?_
  intro p e s m args below meth c s₁ B hml hv
  obtain ⟨rfl, X, hS, hr, hlocks⟩ := am_in B hv
  refine am_entry (Nat.le_of_ble_eq_true rfl) (fun ls hl => ?_)
  exact wJ7_fill_53178 X hml ⟨Nat.le_refl _, Nat.le_refl _⟩ hf (fun pc H locs ls hd hS => am_rv X hS hr hd hlocks) _ _ ls hS hl
set_option maxHeartbeats 4000000 in
set_option maxRecDepth 100000 in
theorem wX2_open {p : Program} {l : Launch} {e : Env} {R : Room} {s : State} {m : MethodId} {args : Array Value} {below : List Frame} {meth : Method} {c : Code} {Q : State → Prop} {E : Ev} (X : Cx p s m args c cX2_open RX2 E) (hml : c.maxLocals = 2) (hR : 1 ≤ R.frames ∧ 60 ≤ R.locals) {x0 : Nat} {x1 : Nat} {mm : Mem} {mm1 : Mem} (hf : fX2_open (eS E) x0 x1 mm = some mm1) (hret : ∀ (pc : Nat) (H : Heap) (locs : List Loc) (ls : Array Slot), decode cX2_open pc = .ok (.return_, 1) → wS E s mm1 H locs → W p l e R s m args below meth c H locs 0 0 Q (F0 m pc ls [])) : ∀ (H : Heap) (locs : List Loc) (ls : Array Slot), wS E s mm H locs → lv_has ls 2 [(0, .ref x0), (1, .ref x1)] → W p l e R s m args below meth c H locs 0 0 Q (F0 m 0 ls []) := by
  have hx := X.1
  have hb := X.2.1
  have hR1 := hR.1
  have hR2 := hR.2
  have hRa : 1 ≤ R.frames := by omega
  have hRb : 60 ≤ R.locals := by omega
  unfold fX2_open at hf
  intro H locs ls hS hl
  refine lv_aload_n hx hb dX2_open_0 rfl (lv_at hl 1 rfl) ?_
  obtain ⟨a1, h1, hf⟩ := bs hf
  refine am_gr X hS fl_X2_37 rfl h1 dX2_open_1 ?_
  refine lv_iconst (v := 0) hx hb dX2_open_4 (by decide) ?_
  refine lv_aload_n hx hb dX2_open_5 rfl (lv_at hl 0 rfl) ?_
  obtain ⟨a2, h1, hf⟩ := bs hf
  refine am_gr X hS fl_X2_9 rfl h1 dX2_open_6 ?_
  refine lv_iconst (v := 0) hx hb dX2_open_9 (by decide) ?_
  refine lv_bipush (v := 42) hx hb dX2_open_10 (by decide) ?_
  obtain ⟨m3, h1, hf⟩ := bs hf
  refine am_cpy X (hml.trans hl.1.symm) hS h1 (inBi 519 (by decide +kernel)) (inBi 521 (by decide +kernel)) (inBi 520 (by decide +kernel)) (inBi 118 (by decide +kernel)) (Nat.le_trans (by decide) hRa) (Nat.le_trans (by decide) hRb) dX2_open_12 (fun H locs hS => ?_)
  refine lv_aload_n hx hb dX2_open_15 rfl (lv_at hl 0 rfl) ?_
  obtain ⟨a4, h1, hf⟩ := bs hf
  refine am_gr X hS fl_X2_15 rfl h1 dX2_open_16 ?_
  refine lv_iconst (v := 0) hx hb dX2_open_19 (by decide) ?_
  obtain ⟨m5, h1, hf⟩ := bs hf
  refine am_endv hS (am_runS (As := [.ref a4, .int 0]) X (hml.trans hl.1.symm) hS (cJ7_fill_53178_ok (l := l) (E := E) h1) ms_X2_42 ⟨Nat.le_trans (by decide) hRa, Nat.le_trans (by decide) hRb⟩ ⟨Nat.zero_le _, Nat.zero_le _⟩ rfl rfl (Nat.le_of_ble_eq_true rfl) dX2_open_20) (fun H locs hS => ?_)
  refine lv_aload_n hx hb dX2_open_23 rfl (lv_at hl 0 rfl) ?_
  obtain ⟨a6, h1, hf⟩ := bs hf
  refine am_gr X hS fl_X2_18 rfl h1 dX2_open_24 ?_
  refine lv_iconst (v := 0) hx hb dX2_open_27 (by decide) ?_
  obtain ⟨m7, h1, hf⟩ := bs hf
  refine am_endv hS (am_runS (As := [.ref a6, .int 0]) X (hml.trans hl.1.symm) hS (cJ7_fill_53178_ok (l := l) (E := E) h1) ms_X2_42 ⟨Nat.le_trans (by decide) hRa, Nat.le_trans (by decide) hRb⟩ ⟨Nat.zero_le _, Nat.zero_le _⟩ rfl rfl (Nat.le_of_ble_eq_true rfl) dX2_open_28) (fun H locs hS => ?_)
  refine lv_aload_n hx hb dX2_open_31 rfl (lv_at hl 0 rfl) ?_
  obtain ⟨a8, h1, hf⟩ := bs hf
  refine am_gr X hS fl_X2_21 rfl h1 dX2_open_32 ?_
  refine lv_iconst (v := 0) hx hb dX2_open_35 (by decide) ?_
  obtain ⟨m9, h1, hf⟩ := bs hf
  refine am_endv hS (am_runS (As := [.ref a8, .int 0]) X (hml.trans hl.1.symm) hS (cJ7_fill_53178_ok (l := l) (E := E) h1) ms_X2_42 ⟨Nat.le_trans (by decide) hRa, Nat.le_trans (by decide) hRb⟩ ⟨Nat.zero_le _, Nat.zero_le _⟩ rfl rfl (Nat.le_of_ble_eq_true rfl) dX2_open_36) (fun H locs hS => ?_)
  refine lv_aload_n hx hb dX2_open_39 rfl (lv_at hl 0 rfl) ?_
  obtain ⟨a10, h1, hf⟩ := bs hf
  refine am_gr X hS fl_X2_24 rfl h1 dX2_open_40 ?_
  refine lv_iconst (v := 0) hx hb dX2_open_43 (by decide) ?_
  obtain ⟨m11, h1, hf⟩ := bs hf
  refine am_endv hS (am_runS (As := [.ref a10, .int 0]) X (hml.trans hl.1.symm) hS (cJ7_fill_53178_ok (l := l) (E := E) h1) ms_X2_42 ⟨Nat.le_trans (by decide) hRa, Nat.le_trans (by decide) hRb⟩ ⟨Nat.zero_le _, Nat.zero_le _⟩ rfl rfl (Nat.le_of_ble_eq_true rfl) dX2_open_44) (fun H locs hS => ?_)
  refine lv_aload_n hx hb dX2_open_47 rfl (lv_at hl 0 rfl) ?_
  refine lv_iconst (v := 0) hx hb dX2_open_48 (by decide) ?_
  obtain ⟨m12, h1, hf⟩ := bs hf
  refine am_pi X hS fp_X2_33 rfl h1 dX2_open_49 (fun H locs hS => ?_)
  cases hf
  exact hret _ _ _ _ dX2_open_52 hS
set_option maxRecDepth 100000 in
theorem cX2_open_ok {l : Launch} {E : Ev} {x0 : Nat} {x1 : Nat} {mm : Mem} {mm1 : Mem} (hf : fX2_open (eS E) x0 x1 mm = some mm1) : CtV l yX2_open cX2_open 2 none (1) (60) E [.ref x0, .ref x1] mm mm1 := by
  refine Met.ofW (cc := cX2_open) (maxL := 2) (ret := none) (by decide) rfl ?_
  intro p e s m args below meth c s₁ B hml hv
  obtain ⟨rfl, X, hS, hr, hlocks⟩ := am_in B hv
  refine am_entry (Nat.le_of_ble_eq_true rfl) (fun ls hl => ?_)
  exact wX2_open X hml ⟨Nat.le_refl _, Nat.le_refl _⟩ hf (fun pc H locs ls hd hS => am_rv X hS hr hd hlocks) _ _ ls hS hl
set_option maxHeartbeats 4000000 in
set_option maxRecDepth 100000 in
theorem wX2_takeOut {p : Program} {l : Launch} {e : Env} {R : Room} {s : State} {m : MethodId} {args : Array Value} {below : List Frame} {meth : Method} {c : Code} {Q : State → Prop} {E : Ev} (X : Cx p s m args c cX2_takeOut RX2 E) (hml : c.maxLocals = 3) (hR : 0 ≤ R.frames ∧ 0 ≤ R.locals) {x0 : Nat} {x1 : Int32} {x2 : Int32} {mm : Mem} {r : Int32} {mm1 : Mem} (hf : fX2_takeOut (eS E) x0 x1 x2 mm = some (r, mm1)) (hret : ∀ (pc : Nat) (H : Heap) (locs : List Loc) (ls : Array Slot), narrow .boolean (.int r) = .int r → decode cX2_takeOut pc = .ok (.ireturn, 1) → wS E s mm1 H locs → W p l e R s m args below meth c H locs 0 0 Q (F0 m pc ls [.int r])) : ∀ (H : Heap) (locs : List Loc) (ls : Array Slot), wS E s mm H locs → lv_has ls 3 [(0, .ref x0), (1, .int x1), (2, .int x2)] → W p l e R s m args below meth c H locs 0 0 Q (F0 m 0 ls []) := by
  have hx := X.1
  have hb := X.2.1
  have hR1 := hR.1
  have hR2 := hR.2
  have hRa : 0 ≤ R.frames := by omega
  have hRb : 0 ≤ R.locals := by omega
  unfold fX2_takeOut at hf
  intro H locs ls hS hl
  refine lv_aload_n hx hb dX2_takeOut_0 rfl (lv_at hl 0 rfl) ?_
  obtain ⟨a1, h1, hf⟩ := bs hf
  refine am_gr X hS fl_X2_9 rfl h1 dX2_takeOut_1 ?_
  refine lv_iload_n hx hb dX2_takeOut_4 rfl (lv_at hl 1 rfl) ?_
  obtain ⟨v2, h1, hf⟩ := bs hf
  refine am_ald X hS h1 dX2_takeOut_5 ?_
  refine lv_iload_n hx hb dX2_takeOut_6 rfl (lv_at hl 2 rfl) ?_
  refine lv_icmp_ge (tgt := 12) hx hb dX2_takeOut_7 (by decide) (fun q3 => ?_) (fun q3 => ?_)
  · have hf := ifp hf q3
    refine lv_aload_n hx hb dX2_takeOut_12 rfl (lv_at hl 0 rfl) ?_
    obtain ⟨a4, h1, hf⟩ := bs hf
    refine am_gr X hS fl_X2_9 rfl h1 dX2_takeOut_13 ?_
    refine lv_iload_n hx hb dX2_takeOut_16 rfl (lv_at hl 1 rfl) ?_
    refine lv_dup2_11 hx hb dX2_takeOut_17 rfl rfl ?_
    obtain ⟨v5, h1, hf⟩ := bs hf
    refine am_ald X hS h1 dX2_takeOut_18 ?_
    refine lv_iload_n hx hb dX2_takeOut_19 rfl (lv_at hl 2 rfl) ?_
    refine lv_isub hx hb dX2_takeOut_20 ?_
    obtain ⟨m6, h1, hf⟩ := bs hf
    refine am_ast X hS h1 dX2_takeOut_21 (fun H locs hS => ?_)
    refine lv_aload_n hx hb dX2_takeOut_22 rfl (lv_at hl 0 rfl) ?_
    obtain ⟨a7, h1, hf⟩ := bs hf
    refine am_gr X hS fl_X2_21 rfl h1 dX2_takeOut_23 ?_
    refine lv_iload_n hx hb dX2_takeOut_26 rfl (lv_at hl 1 rfl) ?_
    refine lv_dup2_11 hx hb dX2_takeOut_27 rfl rfl ?_
    obtain ⟨v8, h1, hf⟩ := bs hf
    refine am_ald X hS h1 dX2_takeOut_28 ?_
    refine lv_iload_n hx hb dX2_takeOut_29 rfl (lv_at hl 2 rfl) ?_
    refine lv_iadd hx hb dX2_takeOut_30 ?_
    obtain ⟨m9, h1, hf⟩ := bs hf
    refine am_ast X hS h1 dX2_takeOut_31 (fun H locs hS => ?_)
    refine lv_iconst (v := 1) hx hb dX2_takeOut_32 (by decide) ?_
    cases hf
    exact hret _ _ _ _ rfl dX2_takeOut_33 hS
  · have hf := ifn hf q3
    refine lv_iconst (v := 0) hx hb dX2_takeOut_10 (by decide) ?_
    cases hf
    exact hret _ _ _ _ rfl dX2_takeOut_11 hS
set_option maxRecDepth 100000 in
theorem cX2_takeOut_ok {l : Launch} {E : Ev} {x0 : Nat} {x1 : Int32} {x2 : Int32} {mm : Mem} {r : Int32} {mm1 : Mem} (hf : fX2_takeOut (eS E) x0 x1 x2 mm = some (r, mm1)) : CtI l yX2_takeOut cX2_takeOut 3 (some .boolean) (0) (0) E [.ref x0, .int x1, .int x2] mm r mm1 := by
  refine Met.ofW (cc := cX2_takeOut) (maxL := 3) (ret := (some .boolean)) (by decide) rfl ?_
  intro p e s m args below meth c s₁ B hml hv
  obtain ⟨rfl, X, hS, hr, hlocks⟩ := am_in B hv
  refine am_entry (Nat.le_of_ble_eq_true rfl) (fun ls hl => ?_)
  exact wX2_takeOut X hml ⟨Nat.le_refl _, Nat.le_refl _⟩ hf (fun pc H locs ls hn hd hS => am_ri X hS hr hn hd hlocks) _ _ ls hS hl
set_option maxHeartbeats 4000000 in
set_option maxRecDepth 100000 in
theorem wX2_giveBack {p : Program} {l : Launch} {e : Env} {R : Room} {s : State} {m : MethodId} {args : Array Value} {below : List Frame} {meth : Method} {c : Code} {Q : State → Prop} {E : Ev} (X : Cx p s m args c cX2_giveBack RX2 E) (hml : c.maxLocals = 3) (hR : 0 ≤ R.frames ∧ 0 ≤ R.locals) {x0 : Nat} {x1 : Int32} {x2 : Int32} {mm : Mem} {r : Int32} {mm1 : Mem} (hf : fX2_giveBack (eS E) x0 x1 x2 mm = some (r, mm1)) (hret : ∀ (pc : Nat) (H : Heap) (locs : List Loc) (ls : Array Slot), narrow .boolean (.int r) = .int r → decode cX2_giveBack pc = .ok (.ireturn, 1) → wS E s mm1 H locs → W p l e R s m args below meth c H locs 0 0 Q (F0 m pc ls [.int r])) : ∀ (H : Heap) (locs : List Loc) (ls : Array Slot), wS E s mm H locs → lv_has ls 3 [(0, .ref x0), (1, .int x1), (2, .int x2)] → W p l e R s m args below meth c H locs 0 0 Q (F0 m 0 ls []) := by
  have hx := X.1
  have hb := X.2.1
  have hR1 := hR.1
  have hR2 := hR.2
  have hRa : 0 ≤ R.frames := by omega
  have hRb : 0 ≤ R.locals := by omega
  unfold fX2_giveBack at hf
  intro H locs ls hS hl
  refine lv_aload_n hx hb dX2_giveBack_0 rfl (lv_at hl 0 rfl) ?_
  obtain ⟨a1, h1, hf⟩ := bs hf
  refine am_gr X hS fl_X2_21 rfl h1 dX2_giveBack_1 ?_
  refine lv_iload_n hx hb dX2_giveBack_4 rfl (lv_at hl 1 rfl) ?_
  obtain ⟨v2, h1, hf⟩ := bs hf
  refine am_ald X hS h1 dX2_giveBack_5 ?_
  refine lv_iload_n hx hb dX2_giveBack_6 rfl (lv_at hl 2 rfl) ?_
  refine lv_icmp_ge (tgt := 12) hx hb dX2_giveBack_7 (by decide) (fun q3 => ?_) (fun q3 => ?_)
  · have hf := ifp hf q3
    refine lv_aload_n hx hb dX2_giveBack_12 rfl (lv_at hl 0 rfl) ?_
    obtain ⟨a4, h1, hf⟩ := bs hf
    refine am_gr X hS fl_X2_21 rfl h1 dX2_giveBack_13 ?_
    refine lv_iload_n hx hb dX2_giveBack_16 rfl (lv_at hl 1 rfl) ?_
    refine lv_dup2_11 hx hb dX2_giveBack_17 rfl rfl ?_
    obtain ⟨v5, h1, hf⟩ := bs hf
    refine am_ald X hS h1 dX2_giveBack_18 ?_
    refine lv_iload_n hx hb dX2_giveBack_19 rfl (lv_at hl 2 rfl) ?_
    refine lv_isub hx hb dX2_giveBack_20 ?_
    obtain ⟨m6, h1, hf⟩ := bs hf
    refine am_ast X hS h1 dX2_giveBack_21 (fun H locs hS => ?_)
    refine lv_aload_n hx hb dX2_giveBack_22 rfl (lv_at hl 0 rfl) ?_
    obtain ⟨a7, h1, hf⟩ := bs hf
    refine am_gr X hS fl_X2_9 rfl h1 dX2_giveBack_23 ?_
    refine lv_iload_n hx hb dX2_giveBack_26 rfl (lv_at hl 1 rfl) ?_
    refine lv_dup2_11 hx hb dX2_giveBack_27 rfl rfl ?_
    obtain ⟨v8, h1, hf⟩ := bs hf
    refine am_ald X hS h1 dX2_giveBack_28 ?_
    refine lv_iload_n hx hb dX2_giveBack_29 rfl (lv_at hl 2 rfl) ?_
    refine lv_iadd hx hb dX2_giveBack_30 ?_
    obtain ⟨m9, h1, hf⟩ := bs hf
    refine am_ast X hS h1 dX2_giveBack_31 (fun H locs hS => ?_)
    refine lv_iconst (v := 1) hx hb dX2_giveBack_32 (by decide) ?_
    cases hf
    exact hret _ _ _ _ rfl dX2_giveBack_33 hS
  · have hf := ifn hf q3
    refine lv_iconst (v := 0) hx hb dX2_giveBack_10 (by decide) ?_
    cases hf
    exact hret _ _ _ _ rfl dX2_giveBack_11 hS
set_option maxRecDepth 100000 in
theorem cX2_giveBack_ok {l : Launch} {E : Ev} {x0 : Nat} {x1 : Int32} {x2 : Int32} {mm : Mem} {r : Int32} {mm1 : Mem} (hf : fX2_giveBack (eS E) x0 x1 x2 mm = some (r, mm1)) : CtI l yX2_giveBack cX2_giveBack 3 (some .boolean) (0) (0) E [.ref x0, .int x1, .int x2] mm r mm1 := by
  refine Met.ofW (cc := cX2_giveBack) (maxL := 3) (ret := (some .boolean)) (by decide) rfl ?_
  intro p e s m args below meth c s₁ B hml hv
  obtain ⟨rfl, X, hS, hr, hlocks⟩ := am_in B hv
  refine am_entry (Nat.le_of_ble_eq_true rfl) (fun ls hl => ?_)
  exact wX2_giveBack X hml ⟨Nat.le_refl _, Nat.le_refl _⟩ hf (fun pc H locs ls hn hd hS => am_ri X hS hr hn hd hlocks) _ _ ls hS hl
set_option maxHeartbeats 4000000 in
set_option maxRecDepth 100000 in
theorem wX2_change {p : Program} {l : Launch} {e : Env} {R : Room} {s : State} {m : MethodId} {args : Array Value} {below : List Frame} {meth : Method} {c : Code} {Q : State → Prop} {E : Ev} (X : Cx p s m args c cX2_change RX2 E) (hml : c.maxLocals = 4) (hR : 0 ≤ R.frames ∧ 0 ≤ R.locals) {x0 : Nat} {x1 : Int32} {x2 : Int32} {mm : Mem} {r : Int32} {mm1 : Mem} (hf : fX2_change (eS E) x0 x1 x2 mm = some (r, mm1)) (hret : ∀ (pc : Nat) (H : Heap) (locs : List Loc) (ls : Array Slot), narrow .boolean (.int r) = .int r → decode cX2_change pc = .ok (.ireturn, 1) → wS E s mm1 H locs → W p l e R s m args below meth c H locs 0 0 Q (F0 m pc ls [.int r])) : ∀ (H : Heap) (locs : List Loc) (ls : Array Slot), wS E s mm H locs → lv_has ls 4 [(0, .ref x0), (1, .int x1), (2, .int x2)] → W p l e R s m args below meth c H locs 0 0 Q (F0 m 0 ls []) := by
  have hx := X.1
  have hb := X.2.1
  have hR1 := hR.1
  have hR2 := hR.2
  have hRa : 0 ≤ R.frames := by omega
  have hRb : 0 ≤ R.locals := by omega
  unfold fX2_change at hf
  intro H locs ls hS hl
  refine lv_aload_n hx hb dX2_change_0 rfl (lv_at hl 0 rfl) ?_
  obtain ⟨a1, h1, hf⟩ := bs hf
  refine am_gr X hS fl_X2_9 rfl h1 dX2_change_1 ?_
  refine lv_iload_n hx hb dX2_change_4 rfl (lv_at hl 1 rfl) ?_
  obtain ⟨v2, h1, hf⟩ := bs hf
  refine am_ald X hS h1 dX2_change_5 ?_
  refine lv_topi (fun x3_3 e1 => ?_)
  have hf := lt1_n e1 hf
  refine lv_istore_n (lv' := [(3, .int x3_3), (0, .ref x0), (1, .int x1), (2, .int x2)]) hx hb dX2_change_6 rfl hl (by decide) rfl (fun ls hl => ?_)
  refine lv_iload_n hx hb dX2_change_7 rfl (lv_at hl 0 rfl) ?_
  refine lv_aload_n hx hb dX2_change_8 rfl (lv_at hl 1 rfl) ?_
  obtain ⟨a4, h1, hf⟩ := bs hf
  refine am_gr X hS fl_X2_9 rfl h1 dX2_change_9 ?_
  refine lv_iload_n hx hb dX2_change_12 rfl (lv_at hl 3 rfl) ?_
  obtain ⟨v5, h1, hf⟩ := bs hf
  refine am_ald X hS h1 dX2_change_13 ?_
  refine lv_icmp_ne (tgt := 19) hx hb dX2_change_14 (by decide) (fun q6 => ?_) (fun q6 => ?_)
  · have hf := ifn hf q6
    refine lv_aload_n hx hb dX2_change_19 rfl (lv_at hl 1 rfl) ?_
    obtain ⟨a7, h1, hf⟩ := bs hf
    refine am_gr X hS fl_X2_9 rfl h1 dX2_change_20 ?_
    refine lv_iload_n hx hb dX2_change_23 rfl (lv_at hl 2 rfl) ?_
    refine lv_aload_n hx hb dX2_change_24 rfl (lv_at hl 1 rfl) ?_
    obtain ⟨a8, h1, hf⟩ := bs hf
    refine am_gr X hS fl_X2_9 rfl h1 dX2_change_25 ?_
    refine lv_iload_n hx hb dX2_change_28 rfl (lv_at hl 3 rfl) ?_
    obtain ⟨v9, h1, hf⟩ := bs hf
    refine am_ald X hS h1 dX2_change_29 ?_
    obtain ⟨m10, h1, hf⟩ := bs hf
    refine am_ast X hS h1 dX2_change_30 (fun H locs hS => ?_)
    refine lv_aload_n hx hb dX2_change_31 rfl (lv_at hl 1 rfl) ?_
    obtain ⟨a11, h1, hf⟩ := bs hf
    refine am_gr X hS fl_X2_9 rfl h1 dX2_change_32 ?_
    refine lv_iload_n hx hb dX2_change_35 rfl (lv_at hl 3 rfl) ?_
    refine lv_iload_n hx hb dX2_change_36 rfl (lv_at hl 0 rfl) ?_
    obtain ⟨m12, h1, hf⟩ := bs hf
    refine am_ast X hS h1 dX2_change_37 (fun H locs hS => ?_)
    refine lv_iconst (v := 1) hx hb dX2_change_38 (by decide) ?_
    cases hf
    exact hret _ _ _ _ rfl dX2_change_39 hS
  · have hf := ifp hf q6
    refine lv_iconst (v := 0) hx hb dX2_change_17 (by decide) ?_
    cases hf
    exact hret _ _ _ _ rfl dX2_change_18 hS
set_option maxRecDepth 100000 in
theorem cX2_change_ok {l : Launch} {E : Ev} {x0 : Nat} {x1 : Int32} {x2 : Int32} {mm : Mem} {r : Int32} {mm1 : Mem} (hf : fX2_change (eS E) x0 x1 x2 mm = some (r, mm1)) : CtI l yX2_change cX2_change 4 (some .boolean) (0) (0) E [.ref x0, .int x1, .int x2] mm r mm1 := by
  refine Met.ofW (cc := cX2_change) (maxL := 4) (ret := (some .boolean)) (by decide) rfl ?_
  intro p e s m args below meth c s₁ B hml hv
  obtain ⟨rfl, X, hS, hr, hlocks⟩ := am_in B hv
  refine am_entry (Nat.le_of_ble_eq_true rfl) (fun ls hl => ?_)
  exact wX2_change X hml ⟨Nat.le_refl _, Nat.le_refl _⟩ hf (fun pc H locs ls hn hd hS => am_ri X hS hr hn hd hlocks) _ _ ls hS hl
set_option maxHeartbeats 4000000 in
set_option maxRecDepth 100000 in
theorem wX2_passDay {p : Program} {l : Launch} {e : Env} {R : Room} {s : State} {m : MethodId} {args : Array Value} {below : List Frame} {meth : Method} {c : Code} {Q : State → Prop} {E : Ev} (X : Cx p s m args c cX2_passDay RX2 E) (hml : c.maxLocals = 2) (hR : 0 ≤ R.frames ∧ 0 ≤ R.locals) {x0 : Nat} {mm : Mem} {mm1 : Mem} (hf : fX2_passDay (eS E) x0 mm = some mm1) (hret : ∀ (pc : Nat) (H : Heap) (locs : List Loc) (ls : Array Slot), decode cX2_passDay pc = .ok (.return_, 1) → wS E s mm1 H locs → W p l e R s m args below meth c H locs 0 0 Q (F0 m pc ls [])) : ∀ (H : Heap) (locs : List Loc) (ls : Array Slot), wS E s mm H locs → lv_has ls 2 [(0, .ref x0)] → W p l e R s m args below meth c H locs 0 0 Q (F0 m 0 ls []) := by
  have hx := X.1
  have hb := X.2.1
  have hR1 := hR.1
  have hR2 := hR.2
  have hRa : 0 ≤ R.frames := by omega
  have hRb : 0 ≤ R.locals := by omega
  unfold fX2_passDay at hf
  have hj33 : ∀ (x0 : Nat) (mm : Mem) (H : Heap) (locs : List Loc) (ls : Array Slot), fX2_passDay_j33 (eS E) x0 mm = some mm1 → wS E s mm H locs → lv_has ls 2 [(0, .ref x0)] → W p l e R s m args below meth c H locs 0 0 Q (F0 m 33 ls []) := by
    intro x0 mm H locs ls hf hS hl
    unfold fX2_passDay_j33 at hf
    refine lv_aload_n hx hb dX2_passDay_33 rfl (lv_at hl 0 rfl) ?_
    refine lv_dup hx hb dX2_passDay_34 rfl ?_
    obtain ⟨v1, h1, hf⟩ := bs hf
    refine am_gi X hS fl_X2_33 rfl h1 dX2_passDay_35 ?_
    refine lv_iconst (v := 1) hx hb dX2_passDay_38 (by decide) ?_
    refine lv_iadd hx hb dX2_passDay_39 ?_
    obtain ⟨m2, h1, hf⟩ := bs hf
    refine am_pi X hS fp_X2_33 rfl h1 dX2_passDay_40 (fun H locs hS => ?_)
    cases hf
    exact hret _ _ _ _ dX2_passDay_43 hS
  intro H locs ls hS hl
  refine lv_iconst (v := 0) hx hb dX2_passDay_0 (by decide) ?_
  refine lv_topi (fun x1_3 e1 => ?_)
  have hf := lt1_n e1 hf
  refine lv_istore_n (lv' := [(1, .int x1_3), (0, .ref x0)]) hx hb dX2_passDay_1 rfl hl (by decide) rfl (fun ls hl => ?_)
  obtain ⟨ex2, hl2, hk2⟩ := bs hf
  refine loop_W (P := fun st => ∀ (H : Heap) (locs : List Loc) (ls : Array Slot), wS E s st.2 H locs → lv_has ls 2 [(0, .ref x0), (1, .int st.1)] → W p l e R s m args below meth c H locs 0 0 Q (F0 m 2 ls [])) (ex := ex2) ?_ FU _ hl2 H locs ls hS (lv_sub hl [1, 0] rfl)
  intro st y2 hf hyL2 hyR2 H locs ls hS hl
  obtain ⟨x1, mm⟩ := st
  have hf : fX2_passDay_b2 (eS E) x0 x1 mm = some y2 := hf
  have hS : wS E s mm H locs := hS
  have hl : lv_has ls 2 [(0, .ref x0), (1, .int x1)] := hl
  unfold fX2_passDay_b2 at hf
  have hj27 : ∀ (x1 : Int32) (mm : Mem) (H : Heap) (locs : List Loc) (ls : Array Slot), fX2_passDay_j27 (eS E) x0 x1 mm = some y2 → wS E s mm H locs → lv_has ls 2 [(0, .ref x0), (1, .int x1)] → W p l e R s m args below meth c H locs 0 0 Q (F0 m 27 ls []) := by
    intro x1 mm H locs ls hf hS hl
    unfold fX2_passDay_j27 at hf
    obtain ⟨x1_4, e1⟩ : ∃ z : Int32, z = x1 + 1 := ⟨_, rfl⟩
    have hf := lt1_n e1 hf
    refine lv_iinc (v := x1_4) (lv' := [(1, .int x1_4), (0, .ref x0)]) hx hb dX2_passDay_27 hl (k := 1) rfl (by rw [e1]; rfl) (by decide) rfl (fun ls hl => ?_)
    refine lv_goto (tgt := 2) hx hb dX2_passDay_30 (by decide) ?_
    exact hyL2 _ (Option.some.inj hf).symm H locs ls hS (lv_sub hl [1, 0] rfl)
  refine lv_iload_n hx hb dX2_passDay_2 rfl (lv_at hl 1 rfl) ?_
  refine lv_bipush (v := 42) hx hb dX2_passDay_3 (by decide) ?_
  refine lv_icmp_ge (tgt := 33) hx hb dX2_passDay_5 (by decide) (fun q5 => ?_) (fun q5 => ?_)
  · have hf := ifp hf q5
    obtain rfl : mm = ex2 := hyR2 _ (Option.some.inj hf).symm
    exact hj33 x0 mm H locs ls hk2 hS (lv_sub hl [0] rfl)
  · have hf := ifn hf q5
    refine lv_aload_n hx hb dX2_passDay_8 rfl (lv_at hl 0 rfl) ?_
    obtain ⟨a6, h1, hf⟩ := bs hf
    refine am_gr X hS fl_X2_15 rfl h1 dX2_passDay_9 ?_
    refine lv_iload_n hx hb dX2_passDay_12 rfl (lv_at hl 1 rfl) ?_
    obtain ⟨v7, h1, hf⟩ := bs hf
    refine am_ald X hS h1 dX2_passDay_13 ?_
    refine lv_if_le (tgt := 27) hx hb dX2_passDay_14 (by decide) (fun q8 => ?_) (fun q8 => ?_)
    · have hf := ifp hf q8
      exact hj27 x1 mm H locs ls hf hS hl
    · have hf := ifn hf q8
      refine lv_aload_n hx hb dX2_passDay_17 rfl (lv_at hl 0 rfl) ?_
      obtain ⟨a9, h1, hf⟩ := bs hf
      refine am_gr X hS fl_X2_15 rfl h1 dX2_passDay_18 ?_
      refine lv_iload_n hx hb dX2_passDay_21 rfl (lv_at hl 1 rfl) ?_
      refine lv_dup2_11 hx hb dX2_passDay_22 rfl rfl ?_
      obtain ⟨v10, h1, hf⟩ := bs hf
      refine am_ald X hS h1 dX2_passDay_23 ?_
      refine lv_iconst (v := 1) hx hb dX2_passDay_24 (by decide) ?_
      refine lv_isub hx hb dX2_passDay_25 ?_
      obtain ⟨m11, h1, hf⟩ := bs hf
      refine am_ast X hS h1 dX2_passDay_26 (fun H locs hS => ?_)
      exact hj27 x1 m11 H locs ls hf hS hl
set_option maxRecDepth 100000 in
theorem cX2_passDay_ok {l : Launch} {E : Ev} {x0 : Nat} {mm : Mem} {mm1 : Mem} (hf : fX2_passDay (eS E) x0 mm = some mm1) : CtV l yX2_passDay cX2_passDay 2 none (0) (0) E [.ref x0] mm mm1 := by
  refine Met.ofW (cc := cX2_passDay) (maxL := 2) (ret := none) (by decide) rfl ?_
  intro p e s m args below meth c s₁ B hml hv
  obtain ⟨rfl, X, hS, hr, hlocks⟩ := am_in B hv
  refine am_entry (Nat.le_of_ble_eq_true rfl) (fun ls hl => ?_)
  exact wX2_passDay X hml ⟨Nat.le_refl _, Nat.le_refl _⟩ hf (fun pc H locs ls hd hS => am_rv X hS hr hd hlocks) _ _ ls hS hl
set_option maxHeartbeats 4000000 in
set_option maxRecDepth 100000 in
theorem wX11_sum {p : Program} {l : Launch} {e : Env} {R : Room} {s : State} {m : MethodId} {args : Array Value} {below : List Frame} {meth : Method} {c : Code} {Q : State → Prop} {E : Ev} (X : Cx p s m args c cX11_sum RX11 E) (hml : c.maxLocals = 5) (hR : 0 ≤ R.frames ∧ 0 ≤ R.locals) {x0 : Nat} {x1 : Int32} {x2 : Int32} {mm : Mem} {r : Int32} (hf : fX11_sum (eS E) x0 x1 x2 mm = some r) (hret : ∀ (pc : Nat) (H : Heap) (locs : List Loc) (ls : Array Slot), narrow .int (.int r) = .int r → decode cX11_sum pc = .ok (.ireturn, 1) → wS E s mm H locs → W p l e R s m args below meth c H locs 0 0 Q (F0 m pc ls [.int r])) : ∀ (H : Heap) (locs : List Loc) (ls : Array Slot), wS E s mm H locs → lv_has ls 5 [(0, .ref x0), (1, .int x1), (2, .int x2)] → W p l e R s m args below meth c H locs 0 0 Q (F0 m 0 ls []) := by
  have hx := X.1
  have hb := X.2.1
  have hR1 := hR.1
  have hR2 := hR.2
  have hRa : 0 ≤ R.frames := by omega
  have hRb : 0 ≤ R.locals := by omega
  unfold fX11_sum at hf
  have hj24 : ∀ (x3 : Int32) (H : Heap) (locs : List Loc) (ls : Array Slot), fX11_sum_j24 (eS E) x3 mm = some r → wS E s mm H locs → lv_has ls 5 [(3, .int x3)] → W p l e R s m args below meth c H locs 0 0 Q (F0 m 24 ls []) := by
    intro x3 H locs ls hf hS hl
    unfold fX11_sum_j24 at hf
    refine lv_iload_n hx hb dX11_sum_24 rfl (lv_at hl 0 rfl) ?_
    cases hf
    exact hret _ _ _ _ rfl dX11_sum_25 hS
  intro H locs ls hS hl
  refine lv_iconst (v := 0) hx hb dX11_sum_0 (by decide) ?_
  refine lv_topi (fun x3_1 e1 => ?_)
  have hf := lt1_n e1 hf
  refine lv_istore_n (lv' := [(3, .int x3_1), (0, .ref x0), (1, .int x1), (2, .int x2)]) hx hb dX11_sum_1 rfl hl (by decide) rfl (fun ls hl => ?_)
  refine lv_iload_n hx hb dX11_sum_2 rfl (lv_at hl 2 rfl) ?_
  refine lv_topi (fun x4_2 e1 => ?_)
  have hf := lt1_n e1 hf
  refine lv_istore (lv' := [(4, .int x4_2), (3, .int x3_1), (0, .ref x0), (1, .int x1), (2, .int x2)]) hx hb dX11_sum_3 hl (by decide) rfl (fun ls hl => ?_)
  obtain ⟨ex5, hl5, hk5⟩ := bs hf
  refine loop_W (P := fun st => ∀ (H : Heap) (locs : List Loc) (ls : Array Slot), wS E s mm H locs → lv_has ls 5 [(0, .ref x0), (2, .int x2), (3, .int st.1), (4, .int st.2)] → W p l e R s m args below meth c H locs 0 0 Q (F0 m 5 ls [])) (ex := ex5) ?_ FU _ hl5 H locs ls hS (lv_sub hl [2, 4, 1, 0] rfl)
  intro st y5 hf hyL5 hyR5 H locs ls hS hl
  obtain ⟨x3, x4⟩ := st
  have hf : fX11_sum_b5 (eS E) x0 x2 x3 x4 mm = some y5 := hf
  have hS : wS E s mm H locs := hS
  have hl : lv_has ls 5 [(0, .ref x0), (2, .int x2), (3, .int x3), (4, .int x4)] := hl
  unfold fX11_sum_b5 at hf
  refine lv_iload hx hb dX11_sum_5 (lv_at hl 3 rfl) ?_
  refine lv_iload_n hx hb dX11_sum_7 rfl (lv_at hl 1 rfl) ?_
  refine lv_icmp_ge (tgt := 24) hx hb dX11_sum_8 (by decide) (fun q3 => ?_) (fun q3 => ?_)
  · have hf := ifp hf q3
    obtain rfl : x3 = ex5 := hyR5 _ (Option.some.inj hf).symm
    exact hj24 x3 H locs ls hk5 hS (lv_sub hl [2] rfl)
  · have hf := ifn hf q3
    refine lv_iload_n hx hb dX11_sum_11 rfl (lv_at hl 2 rfl) ?_
    refine lv_aload_n hx hb dX11_sum_12 rfl (lv_at hl 0 rfl) ?_
    refine lv_iload hx hb dX11_sum_13 (lv_at hl 3 rfl) ?_
    obtain ⟨v4, h1, hf⟩ := bs hf
    refine am_ald X hS h1 dX11_sum_15 ?_
    refine lv_iadd hx hb dX11_sum_16 ?_
    refine lv_topi (fun x3_5 e1 => ?_)
    have hf := lt1_n e1 hf
    refine lv_istore_n (lv' := [(3, .int x3_5), (0, .ref x0), (2, .int x2), (4, .int x4)]) hx hb dX11_sum_17 rfl hl (by decide) rfl (fun ls hl => ?_)
    obtain ⟨x4_6, e1⟩ : ∃ z : Int32, z = x4 + 1 := ⟨_, rfl⟩
    have hf := lt1_n e1 hf
    refine lv_iinc (v := x4_6) (lv' := [(4, .int x4_6), (3, .int x3_5), (0, .ref x0), (2, .int x2)]) hx hb dX11_sum_18 hl (k := 3) rfl (by rw [e1]; rfl) (by decide) rfl (fun ls hl => ?_)
    refine lv_goto (tgt := 5) hx hb dX11_sum_21 (by decide) ?_
    exact hyL5 _ (Option.some.inj hf).symm H locs ls hS (lv_sub hl [2, 3, 1, 0] rfl)
set_option maxRecDepth 100000 in
theorem cX11_sum_ok {l : Launch} {E : Ev} {x0 : Nat} {x1 : Int32} {x2 : Int32} {mm : Mem} {r : Int32} (hf : fX11_sum (eS E) x0 x1 x2 mm = some r) : CtI l yX11_sum cX11_sum 5 (some .int) (0) (0) E [.ref x0, .int x1, .int x2] mm r mm := by
  refine Met.ofW (cc := cX11_sum) (maxL := 5) (ret := (some .int)) (by decide) rfl ?_
  intro p e s m args below meth c s₁ B hml hv
  obtain ⟨rfl, X, hS, hr, hlocks⟩ := am_in B hv
  refine am_entry (Nat.le_of_ble_eq_true rfl) (fun ls hl => ?_)
  exact wX11_sum X hml ⟨Nat.le_refl _, Nat.le_refl _⟩ hf (fun pc H locs ls hn hd hS => am_ri X hS hr hn hd hlocks) _ _ ls hS hl
set_option maxHeartbeats 4000000 in
set_option maxRecDepth 100000 in
theorem wX2_allWithin {p : Program} {l : Launch} {e : Env} {R : Room} {s : State} {m : MethodId} {args : Array Value} {below : List Frame} {meth : Method} {c : Code} {Q : State → Prop} {E : Ev} (X : Cx p s m args c cX2_allWithin RX2 E) (hml : c.maxLocals = 2) (hR : 1 ≤ R.frames ∧ 24 ≤ R.locals) {x0 : Nat} {x1 : Int32} {mm : Mem} {r : Int32} (hf : fX2_allWithin (eS E) x0 x1 mm = some r) (hret : ∀ (pc : Nat) (H : Heap) (locs : List Loc) (ls : Array Slot), narrow .int (.int r) = .int r → decode cX2_allWithin pc = .ok (.ireturn, 1) → wS E s mm H locs → W p l e R s m args below meth c H locs 0 0 Q (F0 m pc ls [.int r])) : ∀ (H : Heap) (locs : List Loc) (ls : Array Slot), wS E s mm H locs → lv_has ls 2 [(0, .ref x0), (1, .int x1)] → W p l e R s m args below meth c H locs 0 0 Q (F0 m 0 ls []) := by
  have hx := X.1
  have hb := X.2.1
  have hR1 := hR.1
  have hR2 := hR.2
  have hRa : 1 ≤ R.frames := by omega
  have hRb : 24 ≤ R.locals := by omega
  unfold fX2_allWithin at hf
  intro H locs ls hS hl
  refine lv_aload_n hx hb dX2_allWithin_0 rfl (lv_at hl 0 rfl) ?_
  obtain ⟨a1, h1, hf⟩ := bs hf
  refine am_gr X hS fl_X2_9 rfl h1 dX2_allWithin_1 ?_
  refine lv_iload_n hx hb dX2_allWithin_4 rfl (lv_at hl 1 rfl) ?_
  refine lv_bipush (v := 7) hx hb dX2_allWithin_5 (by decide) ?_
  refine lv_imul hx hb dX2_allWithin_7 ?_
  refine lv_iload_n hx hb dX2_allWithin_8 rfl (lv_at hl 1 rfl) ?_
  refine lv_bipush (v := 7) hx hb dX2_allWithin_9 (by decide) ?_
  refine lv_imul hx hb dX2_allWithin_11 ?_
  refine lv_bipush (v := 7) hx hb dX2_allWithin_12 (by decide) ?_
  refine lv_iadd hx hb dX2_allWithin_14 ?_
  obtain ⟨v2, h1, hf⟩ := bs hf
  refine am_endi hS (am_runS (As := [.ref a1, .int (x1 * 7), .int ((x1 * 7) + 7)]) X (hml.trans hl.1.symm) hS (cX11_sum_ok (l := l) (E := E) h1) ms_X2_48 ⟨Nat.le_trans (by decide) hRa, Nat.le_trans (by decide) hRb⟩ ⟨Nat.zero_le _, Nat.zero_le _⟩ rfl rfl (Nat.le_of_ble_eq_true rfl) dX2_allWithin_15) (fun H locs hS => ?_)
  cases hf
  exact hret _ _ _ _ rfl dX2_allWithin_18 hS
set_option maxRecDepth 100000 in
theorem cX2_allWithin_ok {l : Launch} {E : Ev} {x0 : Nat} {x1 : Int32} {mm : Mem} {r : Int32} (hf : fX2_allWithin (eS E) x0 x1 mm = some r) : CtI l yX2_allWithin cX2_allWithin 2 (some .int) (1) (24) E [.ref x0, .int x1] mm r mm := by
  refine Met.ofW (cc := cX2_allWithin) (maxL := 2) (ret := (some .int)) (by decide) rfl ?_
  intro p e s m args below meth c s₁ B hml hv
  obtain ⟨rfl, X, hS, hr, hlocks⟩ := am_in B hv
  refine am_entry (Nat.le_of_ble_eq_true rfl) (fun ls hl => ?_)
  exact wX2_allWithin X hml ⟨Nat.le_refl _, Nat.le_refl _⟩ hf (fun pc H locs ls hn hd hS => am_ri X hS hr hn hd hlocks) _ _ ls hS hl
set_option maxHeartbeats 4000000 in
set_option maxRecDepth 100000 in
theorem wX2_givenBy {p : Program} {l : Launch} {e : Env} {R : Room} {s : State} {m : MethodId} {args : Array Value} {below : List Frame} {meth : Method} {c : Code} {Q : State → Prop} {E : Ev} (X : Cx p s m args c cX2_givenBy RX2 E) (hml : c.maxLocals = 5) (hR : 2 ≤ R.frames ∧ 45 ≤ R.locals) {x0 : Nat} {x1 : Int32} {x2 : Int32} {mm : Mem} {r : Int32} (hf : fX2_givenBy (eS E) x0 x1 x2 mm = some r) (hret : ∀ (pc : Nat) (H : Heap) (locs : List Loc) (ls : Array Slot), narrow .int (.int r) = .int r → decode cX2_givenBy pc = .ok (.ireturn, 1) → wS E s mm H locs → W p l e R s m args below meth c H locs 0 0 Q (F0 m pc ls [.int r])) : ∀ (H : Heap) (locs : List Loc) (ls : Array Slot), wS E s mm H locs → lv_has ls 5 [(0, .ref x0), (1, .int x1), (2, .int x2)] → W p l e R s m args below meth c H locs 0 0 Q (F0 m 0 ls []) := by
  have hx := X.1
  have hb := X.2.1
  have hR1 := hR.1
  have hR2 := hR.2
  have hRa : 2 ≤ R.frames := by omega
  have hRb : 45 ≤ R.locals := by omega
  unfold fX2_givenBy at hf
  have hj41 : ∀ (x3 : Int32) (H : Heap) (locs : List Loc) (ls : Array Slot), fX2_givenBy_j41 (eS E) x3 mm = some r → wS E s mm H locs → lv_has ls 5 [(3, .int x3)] → W p l e R s m args below meth c H locs 0 0 Q (F0 m 41 ls []) := by
    intro x3 H locs ls hf hS hl
    unfold fX2_givenBy_j41 at hf
    refine lv_iload_n hx hb dX2_givenBy_41 rfl (lv_at hl 0 rfl) ?_
    cases hf
    exact hret _ _ _ _ rfl dX2_givenBy_42 hS
  intro H locs ls hS hl
  refine lv_iconst (v := 0) hx hb dX2_givenBy_0 (by decide) ?_
  refine lv_topi (fun x3_1 e1 => ?_)
  have hf := lt1_n e1 hf
  refine lv_istore_n (lv' := [(3, .int x3_1), (0, .ref x0), (1, .int x1), (2, .int x2)]) hx hb dX2_givenBy_1 rfl hl (by decide) rfl (fun ls hl => ?_)
  refine lv_iconst (v := 0) hx hb dX2_givenBy_2 (by decide) ?_
  refine lv_topi (fun x4_2 e1 => ?_)
  have hf := lt1_n e1 hf
  refine lv_istore (lv' := [(4, .int x4_2), (3, .int x3_1), (0, .ref x0), (1, .int x1), (2, .int x2)]) hx hb dX2_givenBy_3 hl (by decide) rfl (fun ls hl => ?_)
  obtain ⟨ex5, hl5, hk5⟩ := bs hf
  refine loop_W (P := fun st => ∀ (H : Heap) (locs : List Loc) (ls : Array Slot), wS E s mm H locs → lv_has ls 5 [(0, .ref x0), (1, .int x1), (2, .int x2), (3, .int st.1), (4, .int st.2)] → W p l e R s m args below meth c H locs 0 0 Q (F0 m 5 ls [])) (ex := ex5) ?_ FU _ hl5 H locs ls hS (lv_sub hl [2, 3, 4, 1, 0] rfl)
  intro st y5 hf hyL5 hyR5 H locs ls hS hl
  obtain ⟨x3, x4⟩ := st
  have hf : fX2_givenBy_b5 (eS E) x0 x1 x2 x3 x4 mm = some y5 := hf
  have hS : wS E s mm H locs := hS
  have hl : lv_has ls 5 [(0, .ref x0), (1, .int x1), (2, .int x2), (3, .int x3), (4, .int x4)] := hl
  unfold fX2_givenBy_b5 at hf
  have hj35 : ∀ (x3 : Int32) (x4 : Int32) (H : Heap) (locs : List Loc) (ls : Array Slot), fX2_givenBy_j35 (eS E) x0 x1 x2 x3 x4 mm = some y5 → wS E s mm H locs → lv_has ls 5 [(0, .ref x0), (1, .int x1), (2, .int x2), (3, .int x3), (4, .int x4)] → W p l e R s m args below meth c H locs 0 0 Q (F0 m 35 ls []) := by
    intro x3 x4 H locs ls hf hS hl
    unfold fX2_givenBy_j35 at hf
    obtain ⟨x4_3, e1⟩ : ∃ z : Int32, z = x4 + 1 := ⟨_, rfl⟩
    have hf := lt1_n e1 hf
    refine lv_iinc (v := x4_3) (lv' := [(4, .int x4_3), (0, .ref x0), (1, .int x1), (2, .int x2), (3, .int x3)]) hx hb dX2_givenBy_35 hl (k := 4) rfl (by rw [e1]; rfl) (by decide) rfl (fun ls hl => ?_)
    refine lv_goto (tgt := 5) hx hb dX2_givenBy_38 (by decide) ?_
    exact hyL5 _ (Option.some.inj hf).symm H locs ls hS (lv_sub hl [1, 2, 3, 4, 0] rfl)
  refine lv_iload hx hb dX2_givenBy_5 (lv_at hl 4 rfl) ?_
  refine lv_bipush (v := 6) hx hb dX2_givenBy_7 (by decide) ?_
  refine lv_icmp_ge (tgt := 41) hx hb dX2_givenBy_9 (by decide) (fun q4 => ?_) (fun q4 => ?_)
  · have hf := ifp hf q4
    obtain rfl : x3 = ex5 := hyR5 _ (Option.some.inj hf).symm
    exact hj41 x3 H locs ls hk5 hS (lv_sub hl [3] rfl)
  · have hf := ifn hf q4
    refine lv_iload_n hx hb dX2_givenBy_12 rfl (lv_at hl 1 rfl) ?_
    refine lv_iload hx hb dX2_givenBy_13 (lv_at hl 4 rfl) ?_
    refine lv_ishr hx hb dX2_givenBy_15 ?_
    refine lv_iconst (v := 1) hx hb dX2_givenBy_16 (by decide) ?_
    refine lv_iand hx hb dX2_givenBy_17 ?_
    refine lv_iconst (v := 1) hx hb dX2_givenBy_18 (by decide) ?_
    refine lv_icmp_ne (tgt := 35) hx hb dX2_givenBy_19 (by decide) (fun q5 => ?_) (fun q5 => ?_)
    · have hf := ifn hf q5
      exact hj35 x3 x4 H locs ls hf hS hl
    · have hf := ifp hf q5
      refine lv_iload_n hx hb dX2_givenBy_22 rfl (lv_at hl 3 rfl) ?_
      refine lv_aload_n hx hb dX2_givenBy_23 rfl (lv_at hl 0 rfl) ?_
      refine lv_iload hx hb dX2_givenBy_24 (lv_at hl 4 rfl) ?_
      obtain ⟨u0, h0, hf⟩ := bs hf
      obtain ⟨_, hrc⟩ := isO_n h0
      obtain ⟨v6, h1, hf⟩ := bs hf
      refine am_endi hS (am_runV (As := [.int x4]) X (hml.trans hl.1.symm) hS (cX2_allWithin_ok (l := l) (E := E) h1) mv_X2_56 hrc rfl ⟨Nat.le_trans (by decide) hRa, Nat.le_trans (by decide) hRb⟩ ⟨Nat.zero_le _, Nat.zero_le _⟩ rfl rfl (Nat.le_of_ble_eq_true rfl) dX2_givenBy_26) (fun H locs hS => ?_)
      refine lv_iload_n hx hb dX2_givenBy_29 rfl (lv_at hl 2 rfl) ?_
      refine va_mmin hx hb (hml.trans hl.1.symm) X.2.2.2.1 (X.2.2.1 _ (inBi 956 (by decide +kernel))) (X.2.2.1 _ (inBi 736 (by decide +kernel))) (X.2.2.1 _ (inBi 117 (by decide +kernel))) (X.2.2.1 _ (inBi 737 (by decide +kernel))) (Nat.le_trans (by decide) hRa) (Nat.le_trans (Nat.le_of_ble_eq_true rfl) hRb) (Nat.zero_le _) (Nat.zero_le _) dX2_givenBy_30 ?_
      refine lv_iadd hx hb dX2_givenBy_33 ?_
      refine lv_topi (fun x3_7 e1 => ?_)
      have hf := lt1_n e1 hf
      refine lv_istore_n (lv' := [(3, .int x3_7), (0, .ref x0), (1, .int x1), (2, .int x2), (4, .int x4)]) hx hb dX2_givenBy_34 rfl hl (by decide) rfl (fun ls hl => ?_)
      exact hj35 x3_7 x4 H locs ls hf hS (lv_sub hl [1, 2, 3, 0, 4] rfl)
set_option maxRecDepth 100000 in
theorem cX2_givenBy_ok {l : Launch} {E : Ev} {x0 : Nat} {x1 : Int32} {x2 : Int32} {mm : Mem} {r : Int32} (hf : fX2_givenBy (eS E) x0 x1 x2 mm = some r) : CtI l yX2_givenBy cX2_givenBy 5 (some .int) (2) (45) E [.ref x0, .int x1, .int x2] mm r mm := by
  refine Met.ofW (cc := cX2_givenBy) (maxL := 5) (ret := (some .int)) (by decide) rfl ?_
  intro p e s m args below meth c s₁ B hml hv
  obtain ⟨rfl, X, hS, hr, hlocks⟩ := am_in B hv
  refine am_entry (Nat.le_of_ble_eq_true rfl) (fun ls hl => ?_)
  exact wX2_givenBy X hml ⟨Nat.le_refl _, Nat.le_refl _⟩ hf (fun pc H locs ls hn hd hS => am_ri X hS hr hn hd hlocks) _ _ ls hS hl
set_option maxHeartbeats 4000000 in
set_option maxRecDepth 100000 in
theorem wX2_muchWithin {p : Program} {l : Launch} {e : Env} {R : Room} {s : State} {m : MethodId} {args : Array Value} {below : List Frame} {meth : Method} {c : Code} {Q : State → Prop} {E : Ev} (X : Cx p s m args c cX2_muchWithin RX2 E) (hml : c.maxLocals = 2) (hR : 3 ≤ R.frames ∧ 69 ≤ R.locals) {x0 : Nat} {x1 : Int32} {mm : Mem} {r : Int32} (hf : fX2_muchWithin (eS E) x0 x1 mm = some r) (hret : ∀ (pc : Nat) (H : Heap) (locs : List Loc) (ls : Array Slot), narrow .int (.int r) = .int r → decode cX2_muchWithin pc = .ok (.ireturn, 1) → wS E s mm H locs → W p l e R s m args below meth c H locs 0 0 Q (F0 m pc ls [.int r])) : ∀ (H : Heap) (locs : List Loc) (ls : Array Slot), wS E s mm H locs → lv_has ls 2 [(0, .ref x0), (1, .int x1)] → W p l e R s m args below meth c H locs 0 0 Q (F0 m 0 ls []) := by
  have hx := X.1
  have hb := X.2.1
  have hR1 := hR.1
  have hR2 := hR.2
  have hRa : 3 ≤ R.frames := by omega
  have hRb : 69 ≤ R.locals := by omega
  unfold fX2_muchWithin at hf
  intro H locs ls hS hl
  refine lv_aload_n hx hb dX2_muchWithin_0 rfl (lv_at hl 0 rfl) ?_
  refine lv_iload_n hx hb dX2_muchWithin_1 rfl (lv_at hl 1 rfl) ?_
  refine lv_sipush (v := 1680) hx hb dX2_muchWithin_2 (by decide) ?_
  obtain ⟨u0, h0, hf⟩ := bs hf
  obtain ⟨_, hrc⟩ := isO_n h0
  obtain ⟨v1, h1, hf⟩ := bs hf
  refine am_endi hS (am_runV (As := [.int x1, .int 1680]) X (hml.trans hl.1.symm) hS (cX2_givenBy_ok (l := l) (E := E) h1) mv_X2_52 hrc rfl ⟨Nat.le_trans (by decide) hRa, Nat.le_trans (by decide) hRb⟩ ⟨Nat.zero_le _, Nat.zero_le _⟩ rfl rfl (Nat.le_of_ble_eq_true rfl) dX2_muchWithin_5) (fun H locs hS => ?_)
  cases hf
  exact hret _ _ _ _ rfl dX2_muchWithin_8 hS
set_option maxRecDepth 100000 in
theorem cX2_muchWithin_ok {l : Launch} {E : Ev} {x0 : Nat} {x1 : Int32} {mm : Mem} {r : Int32} (hf : fX2_muchWithin (eS E) x0 x1 mm = some r) : CtI l yX2_muchWithin cX2_muchWithin 2 (some .int) (3) (69) E [.ref x0, .int x1] mm r mm := by
  refine Met.ofW (cc := cX2_muchWithin) (maxL := 2) (ret := (some .int)) (by decide) rfl ?_
  intro p e s m args below meth c s₁ B hml hv
  obtain ⟨rfl, X, hS, hr, hlocks⟩ := am_in B hv
  refine am_entry (Nat.le_of_ble_eq_true rfl) (fun ls hl => ?_)
  exact wX2_muchWithin X hml ⟨Nat.le_refl _, Nat.le_refl _⟩ hf (fun pc H locs ls hn hd hS => am_ri X hS hr hn hd hlocks) _ _ ls hS hl
set_option maxHeartbeats 4000000 in
set_option maxRecDepth 100000 in
theorem wX2_spreadOf {p : Program} {l : Launch} {e : Env} {R : Room} {s : State} {m : MethodId} {args : Array Value} {below : List Frame} {meth : Method} {c : Code} {Q : State → Prop} {E : Ev} (X : Cx p s m args c cX2_spreadOf RX2 E) (hml : c.maxLocals = 7) (hR : 1 ≤ R.frames ∧ 23 ≤ R.locals) {x0 : Nat} {x1 : Int32} {mm : Mem} {r : Int32} (hf : fX2_spreadOf (eS E) x0 x1 mm = some r) (hret : ∀ (pc : Nat) (H : Heap) (locs : List Loc) (ls : Array Slot), narrow .int (.int r) = .int r → decode cX2_spreadOf pc = .ok (.ireturn, 1) → wS E s mm H locs → W p l e R s m args below meth c H locs 0 0 Q (F0 m pc ls [.int r])) : ∀ (H : Heap) (locs : List Loc) (ls : Array Slot), wS E s mm H locs → lv_has ls 7 [(0, .ref x0), (1, .int x1)] → W p l e R s m args below meth c H locs 0 0 Q (F0 m 0 ls []) := by
  have hx := X.1
  have hb := X.2.1
  have hR1 := hR.1
  have hR2 := hR.2
  have hRa : 1 ≤ R.frames := by omega
  have hRb : 23 ≤ R.locals := by omega
  unfold fX2_spreadOf at hf
  have hj80 : ∀ (x2 : Int32) (x3 : Int32) (H : Heap) (locs : List Loc) (ls : Array Slot), fX2_spreadOf_j80 (eS E) x2 x3 mm = some r → wS E s mm H locs → lv_has ls 7 [(2, .int x2), (3, .int x3)] → W p l e R s m args below meth c H locs 0 0 Q (F0 m 80 ls []) := by
    intro x2 x3 H locs ls hf hS hl
    unfold fX2_spreadOf_j80 at hf
    refine lv_iload_n hx hb dX2_spreadOf_80 rfl (lv_at hl 0 rfl) ?_
    refine lv_iload_n hx hb dX2_spreadOf_81 rfl (lv_at hl 1 rfl) ?_
    refine lv_isub hx hb dX2_spreadOf_82 ?_
    cases hf
    exact hret _ _ _ _ rfl dX2_spreadOf_83 hS
  intro H locs ls hS hl
  refine lv_iconst (v := 0) hx hb dX2_spreadOf_0 (by decide) ?_
  refine lv_topi (fun x2_1 e1 => ?_)
  have hf := lt1_n e1 hf
  refine lv_istore_n (lv' := [(2, .int x2_1), (0, .ref x0), (1, .int x1)]) hx hb dX2_spreadOf_1 rfl hl (by decide) rfl (fun ls hl => ?_)
  refine lv_sipush (v := 1680) hx hb dX2_spreadOf_2 (by decide) ?_
  refine lv_topi (fun x3_2 e1 => ?_)
  have hf := lt1_n e1 hf
  refine lv_istore_n (lv' := [(3, .int x3_2), (2, .int x2_1), (0, .ref x0), (1, .int x1)]) hx hb dX2_spreadOf_5 rfl hl (by decide) rfl (fun ls hl => ?_)
  refine lv_iconst (v := 0) hx hb dX2_spreadOf_6 (by decide) ?_
  refine lv_topi (fun x4_3 e1 => ?_)
  have hf := lt1_n e1 hf
  refine lv_istore (lv' := [(4, .int x4_3), (3, .int x3_2), (2, .int x2_1), (0, .ref x0), (1, .int x1)]) hx hb dX2_spreadOf_7 hl (by decide) rfl (fun ls hl => ?_)
  obtain ⟨ex9, hl9, hk9⟩ := bs hf
  refine loop_W (P := fun st => ∀ (H : Heap) (locs : List Loc) (ls : Array Slot), wS E s mm H locs → lv_has ls 7 [(0, .ref x0), (1, .int x1), (2, .int st.1), (3, .int st.2.1), (4, .int st.2.2)] → W p l e R s m args below meth c H locs 0 0 Q (F0 m 9 ls [])) (ex := ex9) ?_ FU _ hl9 H locs ls hS (lv_sub hl [3, 4, 2, 1, 0] rfl)
  intro st y9 hf hyL9 hyR9 H locs ls hS hl
  obtain ⟨x2, x3, x4⟩ := st
  have hf : fX2_spreadOf_b9 (eS E) x0 x1 x2 x3 x4 mm = some y9 := hf
  have hS : wS E s mm H locs := hS
  have hl : lv_has ls 7 [(0, .ref x0), (1, .int x1), (2, .int x2), (3, .int x3), (4, .int x4)] := hl
  unfold fX2_spreadOf_b9 at hf
  have hj60 : ∀ (x2 : Int32) (x3 : Int32) (x4 : Int32) (x5 : Int32) (H : Heap) (locs : List Loc) (ls : Array Slot), fX2_spreadOf_j60 (eS E) x0 x1 x2 x3 x4 x5 mm = some y9 → wS E s mm H locs → lv_has ls 7 [(0, .ref x0), (1, .int x1), (2, .int x2), (3, .int x3), (4, .int x4), (5, .int x5)] → W p l e R s m args below meth c H locs 0 0 Q (F0 m 60 ls []) := by
    intro x2 x3 x4 x5 H locs ls hf hS hl
    unfold fX2_spreadOf_j60 at hf
    refine lv_iload_n hx hb dX2_spreadOf_60 rfl (lv_at hl 2 rfl) ?_
    refine lv_iload hx hb dX2_spreadOf_61 (lv_at hl 5 rfl) ?_
    refine va_mmax hx hb (hml.trans hl.1.symm) X.2.2.2.1 (X.2.2.1 _ (inBi 955 (by decide +kernel))) (X.2.2.1 _ (inBi 850 (by decide +kernel))) (X.2.2.1 _ (inBi 117 (by decide +kernel))) (X.2.2.1 _ (inBi 851 (by decide +kernel))) (Nat.le_trans (by decide) hRa) (Nat.le_trans (Nat.le_of_ble_eq_true rfl) hRb) (Nat.zero_le _) (Nat.zero_le _) dX2_spreadOf_63 ?_
    refine lv_topi (fun x2_4 e1 => ?_)
    have hf := lt1_n e1 hf
    refine lv_istore_n (lv' := [(2, .int x2_4), (0, .ref x0), (1, .int x1), (3, .int x3), (4, .int x4), (5, .int x5)]) hx hb dX2_spreadOf_66 rfl hl (by decide) rfl (fun ls hl => ?_)
    refine lv_iload_n hx hb dX2_spreadOf_67 rfl (lv_at hl 3 rfl) ?_
    refine lv_iload hx hb dX2_spreadOf_68 (lv_at hl 5 rfl) ?_
    refine va_mmin hx hb (hml.trans hl.1.symm) X.2.2.2.1 (X.2.2.1 _ (inBi 956 (by decide +kernel))) (X.2.2.1 _ (inBi 736 (by decide +kernel))) (X.2.2.1 _ (inBi 117 (by decide +kernel))) (X.2.2.1 _ (inBi 737 (by decide +kernel))) (Nat.le_trans (by decide) hRa) (Nat.le_trans (Nat.le_of_ble_eq_true rfl) hRb) (Nat.zero_le _) (Nat.zero_le _) dX2_spreadOf_70 ?_
    refine lv_topi (fun x3_5 e1 => ?_)
    have hf := lt1_n e1 hf
    refine lv_istore_n (lv' := [(3, .int x3_5), (2, .int x2_4), (0, .ref x0), (1, .int x1), (4, .int x4), (5, .int x5)]) hx hb dX2_spreadOf_73 rfl hl (by decide) rfl (fun ls hl => ?_)
    obtain ⟨x4_6, e1⟩ : ∃ z : Int32, z = x4 + 1 := ⟨_, rfl⟩
    have hf := lt1_n e1 hf
    refine lv_iinc (v := x4_6) (lv' := [(4, .int x4_6), (3, .int x3_5), (2, .int x2_4), (0, .ref x0), (1, .int x1), (5, .int x5)]) hx hb dX2_spreadOf_74 hl (k := 4) rfl (by rw [e1]; rfl) (by decide) rfl (fun ls hl => ?_)
    refine lv_goto (tgt := 9) hx hb dX2_spreadOf_77 (by decide) ?_
    exact hyL9 _ (Option.some.inj hf).symm H locs ls hS (lv_sub hl [3, 4, 2, 1, 0] rfl)
  refine lv_iload hx hb dX2_spreadOf_9 (lv_at hl 4 rfl) ?_
  refine lv_bipush (v := 7) hx hb dX2_spreadOf_11 (by decide) ?_
  refine lv_icmp_ge (tgt := 80) hx hb dX2_spreadOf_13 (by decide) (fun q7 => ?_) (fun q7 => ?_)
  · have hf := ifp hf q7
    obtain rfl : (x2, x3) = ex9 := hyR9 _ (Option.some.inj hf).symm
    exact hj80 x2 x3 H locs ls hk9 hS (lv_sub hl [2, 3] rfl)
  · have hf := ifn hf q7
    refine lv_iconst (v := 0) hx hb dX2_spreadOf_16 (by decide) ?_
    refine lv_topi (fun x5_8 e1 => ?_)
    have hf := lt1_n e1 hf
    refine lv_istore (lv' := [(5, .int x5_8), (0, .ref x0), (1, .int x1), (2, .int x2), (3, .int x3), (4, .int x4)]) hx hb dX2_spreadOf_17 hl (by decide) rfl (fun ls hl => ?_)
    refine lv_iconst (v := 0) hx hb dX2_spreadOf_19 (by decide) ?_
    refine lv_topi (fun x6_9 e1 => ?_)
    have hf := lt1_n e1 hf
    refine lv_istore (lv' := [(6, .int x6_9), (5, .int x5_8), (0, .ref x0), (1, .int x1), (2, .int x2), (3, .int x3), (4, .int x4)]) hx hb dX2_spreadOf_20 hl (by decide) rfl (fun ls hl => ?_)
    obtain ⟨ex22, hl22, hk22⟩ := bs hf
    refine loop_W (P := fun st => ∀ (H : Heap) (locs : List Loc) (ls : Array Slot), wS E s mm H locs → lv_has ls 7 [(0, .ref x0), (1, .int x1), (2, .int x2), (3, .int x3), (4, .int x4), (5, .int st.1), (6, .int st.2)] → W p l e R s m args below meth c H locs 0 0 Q (F0 m 22 ls [])) (ex := ex22) ?_ FU _ hl22 H locs ls hS (lv_sub hl [2, 3, 4, 5, 6, 1, 0] rfl)
    intro st y22 hf hyL22 hyR22 H locs ls hS hl
    obtain ⟨x5, x6⟩ := st
    have hf : fX2_spreadOf_b22 (eS E) x0 x1 x2 x3 x4 x5 x6 mm = some y22 := hf
    have hS : wS E s mm H locs := hS
    have hl : lv_has ls 7 [(0, .ref x0), (1, .int x1), (2, .int x2), (3, .int x3), (4, .int x4), (5, .int x5), (6, .int x6)] := hl
    unfold fX2_spreadOf_b22 at hf
    refine lv_iload hx hb dX2_spreadOf_22 (lv_at hl 6 rfl) ?_
    refine lv_bipush (v := 6) hx hb dX2_spreadOf_24 (by decide) ?_
    refine lv_icmp_ge (tgt := 60) hx hb dX2_spreadOf_26 (by decide) (fun q10 => ?_) (fun q10 => ?_)
    · have hf := ifp hf q10
      obtain rfl : x5 = ex22 := hyR22 _ (Option.some.inj hf).symm
      exact hj60 x2 x3 x4 x5 H locs ls hk22 hS (lv_sub hl [0, 1, 2, 3, 4, 5] rfl)
    · have hf := ifn hf q10
      refine lv_iload hx hb dX2_spreadOf_29 (lv_at hl 5 rfl) ?_
      refine lv_iload_n hx hb dX2_spreadOf_31 rfl (lv_at hl 1 rfl) ?_
      refine lv_iload hx hb dX2_spreadOf_32 (lv_at hl 6 rfl) ?_
      refine lv_ishr hx hb dX2_spreadOf_34 ?_
      refine lv_iconst (v := 1) hx hb dX2_spreadOf_35 (by decide) ?_
      refine lv_iand hx hb dX2_spreadOf_36 ?_
      refine lv_aload_n hx hb dX2_spreadOf_37 rfl (lv_at hl 0 rfl) ?_
      obtain ⟨a11, h1, hf⟩ := bs hf
      refine am_gr X hS fl_X2_9 rfl h1 dX2_spreadOf_38 ?_
      refine lv_iload hx hb dX2_spreadOf_41 (lv_at hl 6 rfl) ?_
      refine lv_bipush (v := 7) hx hb dX2_spreadOf_43 (by decide) ?_
      refine lv_imul hx hb dX2_spreadOf_45 ?_
      refine lv_iload hx hb dX2_spreadOf_46 (lv_at hl 4 rfl) ?_
      refine lv_iadd hx hb dX2_spreadOf_48 ?_
      obtain ⟨v12, h1, hf⟩ := bs hf
      refine am_ald X hS h1 dX2_spreadOf_49 ?_
      refine lv_imul hx hb dX2_spreadOf_50 ?_
      refine lv_iadd hx hb dX2_spreadOf_51 ?_
      refine lv_topi (fun x5_13 e1 => ?_)
      have hf := lt1_n e1 hf
      refine lv_istore (lv' := [(5, .int x5_13), (0, .ref x0), (1, .int x1), (2, .int x2), (3, .int x3), (4, .int x4), (6, .int x6)]) hx hb dX2_spreadOf_52 hl (by decide) rfl (fun ls hl => ?_)
      obtain ⟨x6_14, e1⟩ : ∃ z : Int32, z = x6 + 1 := ⟨_, rfl⟩
      have hf := lt1_n e1 hf
      refine lv_iinc (v := x6_14) (lv' := [(6, .int x6_14), (5, .int x5_13), (0, .ref x0), (1, .int x1), (2, .int x2), (3, .int x3), (4, .int x4)]) hx hb dX2_spreadOf_54 hl (k := 6) rfl (by rw [e1]; rfl) (by decide) rfl (fun ls hl => ?_)
      refine lv_goto (tgt := 22) hx hb dX2_spreadOf_57 (by decide) ?_
      exact hyL22 _ (Option.some.inj hf).symm H locs ls hS (lv_sub hl [2, 3, 4, 5, 6, 1, 0] rfl)
set_option maxRecDepth 100000 in
theorem cX2_spreadOf_ok {l : Launch} {E : Ev} {x0 : Nat} {x1 : Int32} {mm : Mem} {r : Int32} (hf : fX2_spreadOf (eS E) x0 x1 mm = some r) : CtI l yX2_spreadOf cX2_spreadOf 7 (some .int) (1) (23) E [.ref x0, .int x1] mm r mm := by
  refine Met.ofW (cc := cX2_spreadOf) (maxL := 7) (ret := (some .int)) (by decide) rfl ?_
  intro p e s m args below meth c s₁ B hml hv
  obtain ⟨rfl, X, hS, hr, hlocks⟩ := am_in B hv
  refine am_entry (Nat.le_of_ble_eq_true rfl) (fun ls hl => ?_)
  exact wX2_spreadOf X hml ⟨Nat.le_refl _, Nat.le_refl _⟩ hf (fun pc H locs ls hn hd hS => am_ri X hS hr hn hd hlocks) _ _ ls hS hl
set_option maxHeartbeats 4000000 in
set_option maxRecDepth 100000 in
theorem wX2_isWhite {p : Program} {l : Launch} {e : Env} {R : Room} {s : State} {m : MethodId} {args : Array Value} {below : List Frame} {meth : Method} {c : Code} {Q : State → Prop} {E : Ev} (X : Cx p s m args c cX2_isWhite RX2 E) (hml : c.maxLocals = 2) (hR : 4 ≤ R.frames ∧ 90 ≤ R.locals) {x0 : Nat} {x1 : Int32} {mm : Mem} {r : Int32} (hf : fX2_isWhite (eS E) x0 x1 mm = some r) (hret : ∀ (pc : Nat) (H : Heap) (locs : List Loc) (ls : Array Slot), narrow .boolean (.int r) = .int r → decode cX2_isWhite pc = .ok (.ireturn, 1) → wS E s mm H locs → W p l e R s m args below meth c H locs 0 0 Q (F0 m pc ls [.int r])) : ∀ (H : Heap) (locs : List Loc) (ls : Array Slot), wS E s mm H locs → lv_has ls 2 [(0, .ref x0), (1, .int x1)] → W p l e R s m args below meth c H locs 0 0 Q (F0 m 0 ls []) := by
  have hx := X.1
  have hb := X.2.1
  have hR1 := hR.1
  have hR2 := hR.2
  have hRa : 4 ≤ R.frames := by omega
  have hRb : 90 ≤ R.locals := by omega
  unfold fX2_isWhite at hf
  have hj21 : ∀ (s0 : Int32) (H : Heap) (locs : List Loc) (ls : Array Slot), fX2_isWhite_j21 (eS E) s0 mm = some r → wS E s mm H locs → lv_has ls 2 [] → W p l e R s m args below meth c H locs 0 0 Q (F0 m 21 ls [.int s0]) := by
    intro s0 H locs ls hf hS hl
    unfold fX2_isWhite_j21 at hf
    obtain ⟨v1, h1, hf⟩ := bs hf
    obtain ⟨rfl, h2⟩ := ckZ_n h1
    cases hf
    exact hret _ _ _ _ h2 dX2_isWhite_21 hS
  have hj20 : ∀ (H : Heap) (locs : List Loc) (ls : Array Slot), fX2_isWhite_j20 (eS E) mm = some r → wS E s mm H locs → lv_has ls 2 [] → W p l e R s m args below meth c H locs 0 0 Q (F0 m 20 ls []) := by
    intro H locs ls hf hS hl
    unfold fX2_isWhite_j20 at hf
    refine lv_iconst (v := 0) hx hb dX2_isWhite_20 (by decide) ?_
    exact hj21 0 H locs ls hf hS hl
  intro H locs ls hS hl
  refine lv_aload_n hx hb dX2_isWhite_0 rfl (lv_at hl 0 rfl) ?_
  refine lv_iload_n hx hb dX2_isWhite_1 rfl (lv_at hl 1 rfl) ?_
  obtain ⟨u0, h0, hf⟩ := bs hf
  obtain ⟨_, hrc⟩ := isO_n h0
  obtain ⟨v2, h1, hf⟩ := bs hf
  refine am_endi hS (am_runV (As := [.int x1]) X (hml.trans hl.1.symm) hS (cX2_spreadOf_ok (l := l) (E := E) h1) mv_X2_68 hrc rfl ⟨Nat.le_trans (by decide) hRa, Nat.le_trans (by decide) hRb⟩ ⟨Nat.zero_le _, Nat.zero_le _⟩ rfl rfl (Nat.le_of_ble_eq_true rfl) dX2_isWhite_2) (fun H locs hS => ?_)
  refine lv_if_ne (tgt := 20) hx hb dX2_isWhite_5 (by decide) (fun q3 => ?_) (fun q3 => ?_)
  · have hf := ifn hf q3
    exact hj20  H locs ls hf hS (lv_sub hl [] rfl)
  · have hf := ifp hf q3
    refine lv_aload_n hx hb dX2_isWhite_8 rfl (lv_at hl 0 rfl) ?_
    refine lv_iload_n hx hb dX2_isWhite_9 rfl (lv_at hl 1 rfl) ?_
    obtain ⟨u0, h0, hf⟩ := bs hf
    obtain ⟨_, hrc⟩ := isO_n h0
    obtain ⟨v4, h1, hf⟩ := bs hf
    refine am_endi hS (am_runV (As := [.int x1]) X (hml.trans hl.1.symm) hS (cX2_muchWithin_ok (l := l) (E := E) h1) mv_X2_71 hrc rfl ⟨Nat.le_trans (by decide) hRa, Nat.le_trans (by decide) hRb⟩ ⟨Nat.zero_le _, Nat.zero_le _⟩ rfl rfl (Nat.le_of_ble_eq_true rfl) dX2_isWhite_10) (fun H locs hS => ?_)
    refine lv_if_le (tgt := 20) hx hb dX2_isWhite_13 (by decide) (fun q5 => ?_) (fun q5 => ?_)
    · have hf := ifp hf q5
      exact hj20  H locs ls hf hS (lv_sub hl [] rfl)
    · have hf := ifn hf q5
      refine lv_iconst (v := 1) hx hb dX2_isWhite_16 (by decide) ?_
      refine lv_goto (tgt := 21) hx hb dX2_isWhite_17 (by decide) ?_
      exact hj21 1 H locs ls hf hS (lv_sub hl [] rfl)
set_option maxRecDepth 100000 in
theorem cX2_isWhite_ok {l : Launch} {E : Ev} {x0 : Nat} {x1 : Int32} {mm : Mem} {r : Int32} (hf : fX2_isWhite (eS E) x0 x1 mm = some r) : CtI l yX2_isWhite cX2_isWhite 2 (some .boolean) (4) (90) E [.ref x0, .int x1] mm r mm := by
  refine Met.ofW (cc := cX2_isWhite) (maxL := 2) (ret := (some .boolean)) (by decide) rfl ?_
  intro p e s m args below meth c s₁ B hml hv
  obtain ⟨rfl, X, hS, hr, hlocks⟩ := am_in B hv
  refine am_entry (Nat.le_of_ble_eq_true rfl) (fun ls hl => ?_)
  exact wX2_isWhite X hml ⟨Nat.le_refl _, Nat.le_refl _⟩ hf (fun pc H locs ls hn hd hS => am_ri X hS hr hn hd hlocks) _ _ ls hS hl
set_option maxHeartbeats 4000000 in
set_option maxRecDepth 100000 in
theorem wX2_whiteBits {p : Program} {l : Launch} {e : Env} {R : Room} {s : State} {m : MethodId} {args : Array Value} {below : List Frame} {meth : Method} {c : Code} {Q : State → Prop} {E : Ev} (X : Cx p s m args c cX2_whiteBits RX2 E) (hml : c.maxLocals = 3) (hR : 5 ≤ R.frames ∧ 111 ≤ R.locals) {x0 : Nat} {mm : Mem} {r : Int32} (hf : fX2_whiteBits (eS E) x0 mm = some r) (hret : ∀ (pc : Nat) (H : Heap) (locs : List Loc) (ls : Array Slot), narrow .int (.int r) = .int r → decode cX2_whiteBits pc = .ok (.ireturn, 1) → wS E s mm H locs → W p l e R s m args below meth c H locs 0 0 Q (F0 m pc ls [.int r])) : ∀ (H : Heap) (locs : List Loc) (ls : Array Slot), wS E s mm H locs → lv_has ls 3 [(0, .ref x0)] → W p l e R s m args below meth c H locs 0 0 Q (F0 m 0 ls []) := by
  have hx := X.1
  have hb := X.2.1
  have hR1 := hR.1
  have hR2 := hR.2
  have hRa : 5 ≤ R.frames := by omega
  have hRb : 111 ≤ R.locals := by omega
  unfold fX2_whiteBits at hf
  have hj32 : ∀ (x1 : Int32) (H : Heap) (locs : List Loc) (ls : Array Slot), fX2_whiteBits_j32 (eS E) x1 mm = some r → wS E s mm H locs → lv_has ls 3 [(1, .int x1)] → W p l e R s m args below meth c H locs 0 0 Q (F0 m 32 ls []) := by
    intro x1 H locs ls hf hS hl
    unfold fX2_whiteBits_j32 at hf
    refine lv_iload_n hx hb dX2_whiteBits_32 rfl (lv_at hl 0 rfl) ?_
    cases hf
    exact hret _ _ _ _ rfl dX2_whiteBits_33 hS
  intro H locs ls hS hl
  refine lv_iconst (v := 0) hx hb dX2_whiteBits_0 (by decide) ?_
  refine lv_topi (fun x1_1 e1 => ?_)
  have hf := lt1_n e1 hf
  refine lv_istore_n (lv' := [(1, .int x1_1), (0, .ref x0)]) hx hb dX2_whiteBits_1 rfl hl (by decide) rfl (fun ls hl => ?_)
  refine lv_iconst (v := 0) hx hb dX2_whiteBits_2 (by decide) ?_
  refine lv_topi (fun x2_2 e1 => ?_)
  have hf := lt1_n e1 hf
  refine lv_istore_n (lv' := [(2, .int x2_2), (1, .int x1_1), (0, .ref x0)]) hx hb dX2_whiteBits_3 rfl hl (by decide) rfl (fun ls hl => ?_)
  obtain ⟨ex4, hl4, hk4⟩ := bs hf
  refine loop_W (P := fun st => ∀ (H : Heap) (locs : List Loc) (ls : Array Slot), wS E s mm H locs → lv_has ls 3 [(0, .ref x0), (1, .int st.1), (2, .int st.2)] → W p l e R s m args below meth c H locs 0 0 Q (F0 m 4 ls [])) (ex := ex4) ?_ FU _ hl4 H locs ls hS (lv_sub hl [2, 1, 0] rfl)
  intro st y4 hf hyL4 hyR4 H locs ls hS hl
  obtain ⟨x1, x2⟩ := st
  have hf : fX2_whiteBits_b4 (eS E) x0 x1 x2 mm = some y4 := hf
  have hS : wS E s mm H locs := hS
  have hl : lv_has ls 3 [(0, .ref x0), (1, .int x1), (2, .int x2)] := hl
  unfold fX2_whiteBits_b4 at hf
  have hj26 : ∀ (x1 : Int32) (x2 : Int32) (H : Heap) (locs : List Loc) (ls : Array Slot), fX2_whiteBits_j26 (eS E) x0 x1 x2 mm = some y4 → wS E s mm H locs → lv_has ls 3 [(0, .ref x0), (1, .int x1), (2, .int x2)] → W p l e R s m args below meth c H locs 0 0 Q (F0 m 26 ls []) := by
    intro x1 x2 H locs ls hf hS hl
    unfold fX2_whiteBits_j26 at hf
    obtain ⟨x2_3, e1⟩ : ∃ z : Int32, z = x2 + 1 := ⟨_, rfl⟩
    have hf := lt1_n e1 hf
    refine lv_iinc (v := x2_3) (lv' := [(2, .int x2_3), (0, .ref x0), (1, .int x1)]) hx hb dX2_whiteBits_26 hl (k := 2) rfl (by rw [e1]; rfl) (by decide) rfl (fun ls hl => ?_)
    refine lv_goto (tgt := 4) hx hb dX2_whiteBits_29 (by decide) ?_
    exact hyL4 _ (Option.some.inj hf).symm H locs ls hS (lv_sub hl [1, 2, 0] rfl)
  refine lv_iload_n hx hb dX2_whiteBits_4 rfl (lv_at hl 2 rfl) ?_
  refine lv_bipush (v := 6) hx hb dX2_whiteBits_5 (by decide) ?_
  refine lv_icmp_ge (tgt := 32) hx hb dX2_whiteBits_7 (by decide) (fun q4 => ?_) (fun q4 => ?_)
  · have hf := ifp hf q4
    obtain rfl : x1 = ex4 := hyR4 _ (Option.some.inj hf).symm
    exact hj32 x1 H locs ls hk4 hS (lv_sub hl [1] rfl)
  · have hf := ifn hf q4
    refine lv_aload_n hx hb dX2_whiteBits_10 rfl (lv_at hl 0 rfl) ?_
    refine lv_iconst (v := 1) hx hb dX2_whiteBits_11 (by decide) ?_
    refine lv_iload_n hx hb dX2_whiteBits_12 rfl (lv_at hl 2 rfl) ?_
    refine lv_ishl hx hb dX2_whiteBits_13 ?_
    obtain ⟨u0, h0, hf⟩ := bs hf
    obtain ⟨_, hrc⟩ := isO_n h0
    obtain ⟨v5, h1, hf⟩ := bs hf
    refine am_endi hS (am_runV (As := [.int (1 <<< (x2 &&& 31))]) X (hml.trans hl.1.symm) hS (cX2_isWhite_ok (l := l) (E := E) h1) mv_X2_74 hrc rfl ⟨Nat.le_trans (by decide) hRa, Nat.le_trans (by decide) hRb⟩ ⟨Nat.zero_le _, Nat.zero_le _⟩ rfl rfl (Nat.le_of_ble_eq_true rfl) dX2_whiteBits_14) (fun H locs hS => ?_)
    refine lv_if_eq (tgt := 26) hx hb dX2_whiteBits_17 (by decide) (fun q6 => ?_) (fun q6 => ?_)
    · have hf := ifp hf q6
      exact hj26 x1 x2 H locs ls hf hS hl
    · have hf := ifn hf q6
      refine lv_iload_n hx hb dX2_whiteBits_20 rfl (lv_at hl 1 rfl) ?_
      refine lv_iconst (v := 1) hx hb dX2_whiteBits_21 (by decide) ?_
      refine lv_iload_n hx hb dX2_whiteBits_22 rfl (lv_at hl 2 rfl) ?_
      refine lv_ishl hx hb dX2_whiteBits_23 ?_
      refine lv_ior hx hb dX2_whiteBits_24 ?_
      refine lv_topi (fun x1_7 e1 => ?_)
      have hf := lt1_n e1 hf
      refine lv_istore_n (lv' := [(1, .int x1_7), (0, .ref x0), (2, .int x2)]) hx hb dX2_whiteBits_25 rfl hl (by decide) rfl (fun ls hl => ?_)
      exact hj26 x1_7 x2 H locs ls hf hS (lv_sub hl [1, 0, 2] rfl)
set_option maxRecDepth 100000 in
theorem cX2_whiteBits_ok {l : Launch} {E : Ev} {x0 : Nat} {mm : Mem} {r : Int32} (hf : fX2_whiteBits (eS E) x0 mm = some r) : CtI l yX2_whiteBits cX2_whiteBits 3 (some .int) (5) (111) E [.ref x0] mm r mm := by
  refine Met.ofW (cc := cX2_whiteBits) (maxL := 3) (ret := (some .int)) (by decide) rfl ?_
  intro p e s m args below meth c s₁ B hml hv
  obtain ⟨rfl, X, hS, hr, hlocks⟩ := am_in B hv
  refine am_entry (Nat.le_of_ble_eq_true rfl) (fun ls hl => ?_)
  exact wX2_whiteBits X hml ⟨Nat.le_refl _, Nat.le_refl _⟩ hf (fun pc H locs ls hn hd hS => am_ri X hS hr hn hd hlocks) _ _ ls hS hl
set_option maxHeartbeats 4000000 in
set_option maxRecDepth 100000 in
theorem wX2_darkBits {p : Program} {l : Launch} {e : Env} {R : Room} {s : State} {m : MethodId} {args : Array Value} {below : List Frame} {meth : Method} {c : Code} {Q : State → Prop} {E : Ev} (X : Cx p s m args c cX2_darkBits RX2 E) (hml : c.maxLocals = 5) (hR : 0 ≤ R.frames ∧ 0 ≤ R.locals) {x0 : Nat} {x1 : Int32} {mm : Mem} {r : Int32} (hf : fX2_darkBits (eS E) x0 x1 mm = some r) (hret : ∀ (pc : Nat) (H : Heap) (locs : List Loc) (ls : Array Slot), narrow .int (.int r) = .int r → decode cX2_darkBits pc = .ok (.ireturn, 1) → wS E s mm H locs → W p l e R s m args below meth c H locs 0 0 Q (F0 m pc ls [.int r])) : ∀ (H : Heap) (locs : List Loc) (ls : Array Slot), wS E s mm H locs → lv_has ls 5 [(0, .ref x0), (1, .int x1)] → W p l e R s m args below meth c H locs 0 0 Q (F0 m 0 ls []) := by
  have hx := X.1
  have hb := X.2.1
  have hR1 := hR.1
  have hR2 := hR.2
  have hRa : 0 ≤ R.frames := by omega
  have hRb : 0 ≤ R.locals := by omega
  unfold fX2_darkBits at hf
  have hj50 : ∀ (x2 : Int32) (H : Heap) (locs : List Loc) (ls : Array Slot), fX2_darkBits_j50 (eS E) x2 mm = some r → wS E s mm H locs → lv_has ls 5 [(2, .int x2)] → W p l e R s m args below meth c H locs 0 0 Q (F0 m 50 ls []) := by
    intro x2 H locs ls hf hS hl
    unfold fX2_darkBits_j50 at hf
    refine lv_iload_n hx hb dX2_darkBits_50 rfl (lv_at hl 0 rfl) ?_
    cases hf
    exact hret _ _ _ _ rfl dX2_darkBits_51 hS
  intro H locs ls hS hl
  refine lv_iconst (v := 0) hx hb dX2_darkBits_0 (by decide) ?_
  refine lv_topi (fun x2_1 e1 => ?_)
  have hf := lt1_n e1 hf
  refine lv_istore_n (lv' := [(2, .int x2_1), (0, .ref x0), (1, .int x1)]) hx hb dX2_darkBits_1 rfl hl (by decide) rfl (fun ls hl => ?_)
  refine lv_iconst (v := 0) hx hb dX2_darkBits_2 (by decide) ?_
  refine lv_topi (fun x3_2 e1 => ?_)
  have hf := lt1_n e1 hf
  refine lv_istore_n (lv' := [(3, .int x3_2), (2, .int x2_1), (0, .ref x0), (1, .int x1)]) hx hb dX2_darkBits_3 rfl hl (by decide) rfl (fun ls hl => ?_)
  obtain ⟨ex4, hl4, hk4⟩ := bs hf
  refine loop_W (P := fun st => ∀ (H : Heap) (locs : List Loc) (ls : Array Slot), wS E s mm H locs → lv_has ls 5 [(0, .ref x0), (1, .int x1), (2, .int st.1), (3, .int st.2)] → W p l e R s m args below meth c H locs 0 0 Q (F0 m 4 ls [])) (ex := ex4) ?_ FU _ hl4 H locs ls hS (lv_sub hl [2, 3, 1, 0] rfl)
  intro st y4 hf hyL4 hyR4 H locs ls hS hl
  obtain ⟨x2, x3⟩ := st
  have hf : fX2_darkBits_b4 (eS E) x0 x1 x2 x3 mm = some y4 := hf
  have hS : wS E s mm H locs := hS
  have hl : lv_has ls 5 [(0, .ref x0), (1, .int x1), (2, .int x2), (3, .int x3)] := hl
  unfold fX2_darkBits_b4 at hf
  have hj44 : ∀ (x2 : Int32) (x3 : Int32) (H : Heap) (locs : List Loc) (ls : Array Slot), fX2_darkBits_j44 (eS E) x0 x1 x2 x3 mm = some y4 → wS E s mm H locs → lv_has ls 5 [(0, .ref x0), (1, .int x1), (2, .int x2), (3, .int x3)] → W p l e R s m args below meth c H locs 0 0 Q (F0 m 44 ls []) := by
    intro x2 x3 H locs ls hf hS hl
    unfold fX2_darkBits_j44 at hf
    obtain ⟨x3_3, e1⟩ : ∃ z : Int32, z = x3 + 1 := ⟨_, rfl⟩
    have hf := lt1_n e1 hf
    refine lv_iinc (v := x3_3) (lv' := [(3, .int x3_3), (0, .ref x0), (1, .int x1), (2, .int x2)]) hx hb dX2_darkBits_44 hl (k := 3) rfl (by rw [e1]; rfl) (by decide) rfl (fun ls hl => ?_)
    refine lv_goto (tgt := 4) hx hb dX2_darkBits_47 (by decide) ?_
    exact hyL4 _ (Option.some.inj hf).symm H locs ls hS (lv_sub hl [1, 2, 3, 0] rfl)
  refine lv_iload_n hx hb dX2_darkBits_4 rfl (lv_at hl 3 rfl) ?_
  refine lv_bipush (v := 7) hx hb dX2_darkBits_5 (by decide) ?_
  refine lv_icmp_ge (tgt := 50) hx hb dX2_darkBits_7 (by decide) (fun q4 => ?_) (fun q4 => ?_)
  · have hf := ifp hf q4
    obtain rfl : x2 = ex4 := hyR4 _ (Option.some.inj hf).symm
    exact hj50 x2 H locs ls hk4 hS (lv_sub hl [2] rfl)
  · have hf := ifn hf q4
    refine lv_iload_n hx hb dX2_darkBits_10 rfl (lv_at hl 1 rfl) ?_
    refine lv_bipush (v := 7) hx hb dX2_darkBits_11 (by decide) ?_
    refine lv_imul hx hb dX2_darkBits_13 ?_
    refine lv_iload_n hx hb dX2_darkBits_14 rfl (lv_at hl 3 rfl) ?_
    refine lv_iadd hx hb dX2_darkBits_15 ?_
    refine lv_topi (fun x4_5 e1 => ?_)
    have hf := lt1_n e1 hf
    refine lv_istore (lv' := [(4, .int x4_5), (0, .ref x0), (1, .int x1), (2, .int x2), (3, .int x3)]) hx hb dX2_darkBits_16 hl (by decide) rfl (fun ls hl => ?_)
    refine lv_aload_n hx hb dX2_darkBits_18 rfl (lv_at hl 1 rfl) ?_
    obtain ⟨a6, h1, hf⟩ := bs hf
    refine am_gr X hS fl_X2_9 rfl h1 dX2_darkBits_19 ?_
    refine lv_iload hx hb dX2_darkBits_22 (lv_at hl 0 rfl) ?_
    obtain ⟨v7, h1, hf⟩ := bs hf
    refine am_ald X hS h1 dX2_darkBits_24 ?_
    refine lv_if_ne (tgt := 44) hx hb dX2_darkBits_25 (by decide) (fun q8 => ?_) (fun q8 => ?_)
    · have hf := ifn hf q8
      exact hj44 x2 x3 H locs ls hf hS (lv_sub hl [1, 2, 3, 4] rfl)
    · have hf := ifp hf q8
      refine lv_aload_n hx hb dX2_darkBits_28 rfl (lv_at hl 1 rfl) ?_
      obtain ⟨a9, h1, hf⟩ := bs hf
      refine am_gr X hS fl_X2_15 rfl h1 dX2_darkBits_29 ?_
      refine lv_iload hx hb dX2_darkBits_32 (lv_at hl 0 rfl) ?_
      obtain ⟨v10, h1, hf⟩ := bs hf
      refine am_ald X hS h1 dX2_darkBits_34 ?_
      refine lv_if_ne (tgt := 44) hx hb dX2_darkBits_35 (by decide) (fun q11 => ?_) (fun q11 => ?_)
      · have hf := ifn hf q11
        exact hj44 x2 x3 H locs ls hf hS (lv_sub hl [1, 2, 3, 4] rfl)
      · have hf := ifp hf q11
        refine lv_iload_n hx hb dX2_darkBits_38 rfl (lv_at hl 3 rfl) ?_
        refine lv_iconst (v := 1) hx hb dX2_darkBits_39 (by decide) ?_
        refine lv_iload_n hx hb dX2_darkBits_40 rfl (lv_at hl 4 rfl) ?_
        refine lv_ishl hx hb dX2_darkBits_41 ?_
        refine lv_ior hx hb dX2_darkBits_42 ?_
        refine lv_topi (fun x2_12 e1 => ?_)
        have hf := lt1_n e1 hf
        refine lv_istore_n (lv' := [(2, .int x2_12), (4, .int x4_5), (0, .ref x0), (1, .int x1), (3, .int x3)]) hx hb dX2_darkBits_43 rfl hl (by decide) rfl (fun ls hl => ?_)
        exact hj44 x2_12 x3 H locs ls hf hS (lv_sub hl [2, 3, 0, 4] rfl)
set_option maxRecDepth 100000 in
theorem cX2_darkBits_ok {l : Launch} {E : Ev} {x0 : Nat} {x1 : Int32} {mm : Mem} {r : Int32} (hf : fX2_darkBits (eS E) x0 x1 mm = some r) : CtI l yX2_darkBits cX2_darkBits 5 (some .int) (0) (0) E [.ref x0, .int x1] mm r mm := by
  refine Met.ofW (cc := cX2_darkBits) (maxL := 5) (ret := (some .int)) (by decide) rfl ?_
  intro p e s m args below meth c s₁ B hml hv
  obtain ⟨rfl, X, hS, hr, hlocks⟩ := am_in B hv
  refine am_entry (Nat.le_of_ble_eq_true rfl) (fun ls hl => ?_)
  exact wX2_darkBits X hml ⟨Nat.le_refl _, Nat.le_refl _⟩ hf (fun pc H locs ls hn hd hS => am_ri X hS hr hn hd hlocks) _ _ ls hS hl
set_option maxHeartbeats 4000000 in
set_option maxRecDepth 100000 in
theorem wX2_litBits {p : Program} {l : Launch} {e : Env} {R : Room} {s : State} {m : MethodId} {args : Array Value} {below : List Frame} {meth : Method} {c : Code} {Q : State → Prop} {E : Ev} (X : Cx p s m args c cX2_litBits RX2 E) (hml : c.maxLocals = 4) (hR : 0 ≤ R.frames ∧ 0 ≤ R.locals) {x0 : Nat} {x1 : Int32} {mm : Mem} {r : Int32} (hf : fX2_litBits (eS E) x0 x1 mm = some r) (hret : ∀ (pc : Nat) (H : Heap) (locs : List Loc) (ls : Array Slot), narrow .int (.int r) = .int r → decode cX2_litBits pc = .ok (.ireturn, 1) → wS E s mm H locs → W p l e R s m args below meth c H locs 0 0 Q (F0 m pc ls [.int r])) : ∀ (H : Heap) (locs : List Loc) (ls : Array Slot), wS E s mm H locs → lv_has ls 4 [(0, .ref x0), (1, .int x1)] → W p l e R s m args below meth c H locs 0 0 Q (F0 m 0 ls []) := by
  have hx := X.1
  have hb := X.2.1
  have hR1 := hR.1
  have hR2 := hR.2
  have hRa : 0 ≤ R.frames := by omega
  have hRb : 0 ≤ R.locals := by omega
  unfold fX2_litBits at hf
  have hj35 : ∀ (x2 : Int32) (H : Heap) (locs : List Loc) (ls : Array Slot), fX2_litBits_j35 (eS E) x2 mm = some r → wS E s mm H locs → lv_has ls 4 [(2, .int x2)] → W p l e R s m args below meth c H locs 0 0 Q (F0 m 35 ls []) := by
    intro x2 H locs ls hf hS hl
    unfold fX2_litBits_j35 at hf
    refine lv_iload_n hx hb dX2_litBits_35 rfl (lv_at hl 0 rfl) ?_
    cases hf
    exact hret _ _ _ _ rfl dX2_litBits_36 hS
  intro H locs ls hS hl
  refine lv_iconst (v := 0) hx hb dX2_litBits_0 (by decide) ?_
  refine lv_topi (fun x2_1 e1 => ?_)
  have hf := lt1_n e1 hf
  refine lv_istore_n (lv' := [(2, .int x2_1), (0, .ref x0), (1, .int x1)]) hx hb dX2_litBits_1 rfl hl (by decide) rfl (fun ls hl => ?_)
  refine lv_iconst (v := 0) hx hb dX2_litBits_2 (by decide) ?_
  refine lv_topi (fun x3_2 e1 => ?_)
  have hf := lt1_n e1 hf
  refine lv_istore_n (lv' := [(3, .int x3_2), (2, .int x2_1), (0, .ref x0), (1, .int x1)]) hx hb dX2_litBits_3 rfl hl (by decide) rfl (fun ls hl => ?_)
  obtain ⟨ex4, hl4, hk4⟩ := bs hf
  refine loop_W (P := fun st => ∀ (H : Heap) (locs : List Loc) (ls : Array Slot), wS E s mm H locs → lv_has ls 4 [(0, .ref x0), (1, .int x1), (2, .int st.1), (3, .int st.2)] → W p l e R s m args below meth c H locs 0 0 Q (F0 m 4 ls [])) (ex := ex4) ?_ FU _ hl4 H locs ls hS (lv_sub hl [2, 3, 1, 0] rfl)
  intro st y4 hf hyL4 hyR4 H locs ls hS hl
  obtain ⟨x2, x3⟩ := st
  have hf : fX2_litBits_b4 (eS E) x0 x1 x2 x3 mm = some y4 := hf
  have hS : wS E s mm H locs := hS
  have hl : lv_has ls 4 [(0, .ref x0), (1, .int x1), (2, .int x2), (3, .int x3)] := hl
  unfold fX2_litBits_b4 at hf
  have hj29 : ∀ (x2 : Int32) (x3 : Int32) (H : Heap) (locs : List Loc) (ls : Array Slot), fX2_litBits_j29 (eS E) x0 x1 x2 x3 mm = some y4 → wS E s mm H locs → lv_has ls 4 [(0, .ref x0), (1, .int x1), (2, .int x2), (3, .int x3)] → W p l e R s m args below meth c H locs 0 0 Q (F0 m 29 ls []) := by
    intro x2 x3 H locs ls hf hS hl
    unfold fX2_litBits_j29 at hf
    obtain ⟨x3_3, e1⟩ : ∃ z : Int32, z = x3 + 1 := ⟨_, rfl⟩
    have hf := lt1_n e1 hf
    refine lv_iinc (v := x3_3) (lv' := [(3, .int x3_3), (0, .ref x0), (1, .int x1), (2, .int x2)]) hx hb dX2_litBits_29 hl (k := 3) rfl (by rw [e1]; rfl) (by decide) rfl (fun ls hl => ?_)
    refine lv_goto (tgt := 4) hx hb dX2_litBits_32 (by decide) ?_
    exact hyL4 _ (Option.some.inj hf).symm H locs ls hS (lv_sub hl [1, 2, 3, 0] rfl)
  refine lv_iload_n hx hb dX2_litBits_4 rfl (lv_at hl 3 rfl) ?_
  refine lv_bipush (v := 42) hx hb dX2_litBits_5 (by decide) ?_
  refine lv_icmp_ge (tgt := 35) hx hb dX2_litBits_7 (by decide) (fun q4 => ?_) (fun q4 => ?_)
  · have hf := ifp hf q4
    obtain rfl : x2 = ex4 := hyR4 _ (Option.some.inj hf).symm
    exact hj35 x2 H locs ls hk4 hS (lv_sub hl [2] rfl)
  · have hf := ifn hf q4
    refine lv_aload_n hx hb dX2_litBits_10 rfl (lv_at hl 0 rfl) ?_
    obtain ⟨a5, h1, hf⟩ := bs hf
    refine am_gr X hS fl_X2_15 rfl h1 dX2_litBits_11 ?_
    refine lv_iload_n hx hb dX2_litBits_14 rfl (lv_at hl 3 rfl) ?_
    obtain ⟨v6, h1, hf⟩ := bs hf
    refine am_ald X hS h1 dX2_litBits_15 ?_
    refine lv_iload_n hx hb dX2_litBits_16 rfl (lv_at hl 1 rfl) ?_
    refine lv_icmp_le (tgt := 29) hx hb dX2_litBits_17 (by decide) (fun q7 => ?_) (fun q7 => ?_)
    · have hf := ifp hf q7
      exact hj29 x2 x3 H locs ls hf hS hl
    · have hf := ifn hf q7
      refine lv_iload_n hx hb dX2_litBits_20 rfl (lv_at hl 2 rfl) ?_
      refine lv_iconst (v := 1) hx hb dX2_litBits_21 (by decide) ?_
      refine lv_iload_n hx hb dX2_litBits_22 rfl (lv_at hl 3 rfl) ?_
      refine lv_bipush (v := 7) hx hb dX2_litBits_23 (by decide) ?_
      obtain ⟨v8, h1, hf⟩ := bs hf
      obtain ⟨h1, h2⟩ := dvI_n h1
      refine lv_idiv hx hb dX2_litBits_25 h1 ?_
      rw [h2]
      refine lv_ishl hx hb dX2_litBits_26 ?_
      refine lv_ior hx hb dX2_litBits_27 ?_
      refine lv_topi (fun x2_9 e1 => ?_)
      have hf := lt1_n e1 hf
      refine lv_istore_n (lv' := [(2, .int x2_9), (0, .ref x0), (1, .int x1), (3, .int x3)]) hx hb dX2_litBits_28 rfl hl (by decide) rfl (fun ls hl => ?_)
      exact hj29 x2_9 x3 H locs ls hf hS (lv_sub hl [1, 2, 0, 3] rfl)
set_option maxRecDepth 100000 in
theorem cX2_litBits_ok {l : Launch} {E : Ev} {x0 : Nat} {x1 : Int32} {mm : Mem} {r : Int32} (hf : fX2_litBits (eS E) x0 x1 mm = some r) : CtI l yX2_litBits cX2_litBits 4 (some .int) (0) (0) E [.ref x0, .int x1] mm r mm := by
  refine Met.ofW (cc := cX2_litBits) (maxL := 4) (ret := (some .int)) (by decide) rfl ?_
  intro p e s m args below meth c s₁ B hml hv
  obtain ⟨rfl, X, hS, hr, hlocks⟩ := am_in B hv
  refine am_entry (Nat.le_of_ble_eq_true rfl) (fun ls hl => ?_)
  exact wX2_litBits X hml ⟨Nat.le_refl _, Nat.le_refl _⟩ hf (fun pc H locs ls hn hd hS => am_ri X hS hr hn hd hlocks) _ _ ls hS hl
set_option maxHeartbeats 4000000 in
set_option maxRecDepth 100000 in
theorem wX2_wallAfter {p : Program} {l : Launch} {e : Env} {R : Room} {s : State} {m : MethodId} {args : Array Value} {below : List Frame} {meth : Method} {c : Code} {Q : State → Prop} {E : Ev} (X : Cx p s m args c cX2_wallAfter RX2 E) (hml : c.maxLocals = 4) (hR : 1 ≤ R.frames ∧ 23 ≤ R.locals) {x0 : Nat} {x1 : Int32} {mm : Mem} {r : Int32} (hf : fX2_wallAfter (eS E) x0 x1 mm = some r) (hret : ∀ (pc : Nat) (H : Heap) (locs : List Loc) (ls : Array Slot), narrow .int (.int r) = .int r → decode cX2_wallAfter pc = .ok (.ireturn, 1) → wS E s mm H locs → W p l e R s m args below meth c H locs 0 0 Q (F0 m pc ls [.int r])) : ∀ (H : Heap) (locs : List Loc) (ls : Array Slot), wS E s mm H locs → lv_has ls 4 [(0, .ref x0), (1, .int x1)] → W p l e R s m args below meth c H locs 0 0 Q (F0 m 0 ls []) := by
  have hx := X.1
  have hb := X.2.1
  have hR1 := hR.1
  have hR2 := hR.2
  have hRa : 1 ≤ R.frames := by omega
  have hRb : 23 ≤ R.locals := by omega
  unfold fX2_wallAfter at hf
  have hj31 : ∀ (x2 : Int32) (H : Heap) (locs : List Loc) (ls : Array Slot), fX2_wallAfter_j31 (eS E) x2 mm = some r → wS E s mm H locs → lv_has ls 4 [(2, .int x2)] → W p l e R s m args below meth c H locs 0 0 Q (F0 m 31 ls []) := by
    intro x2 H locs ls hf hS hl
    unfold fX2_wallAfter_j31 at hf
    refine lv_iload_n hx hb dX2_wallAfter_31 rfl (lv_at hl 0 rfl) ?_
    cases hf
    exact hret _ _ _ _ rfl dX2_wallAfter_32 hS
  intro H locs ls hS hl
  refine lv_iconst (v := 0) hx hb dX2_wallAfter_0 (by decide) ?_
  refine lv_topi (fun x2_1 e1 => ?_)
  have hf := lt1_n e1 hf
  refine lv_istore_n (lv' := [(2, .int x2_1), (0, .ref x0), (1, .int x1)]) hx hb dX2_wallAfter_1 rfl hl (by decide) rfl (fun ls hl => ?_)
  refine lv_iconst (v := 0) hx hb dX2_wallAfter_2 (by decide) ?_
  refine lv_topi (fun x3_2 e1 => ?_)
  have hf := lt1_n e1 hf
  refine lv_istore_n (lv' := [(3, .int x3_2), (2, .int x2_1), (0, .ref x0), (1, .int x1)]) hx hb dX2_wallAfter_3 rfl hl (by decide) rfl (fun ls hl => ?_)
  obtain ⟨ex4, hl4, hk4⟩ := bs hf
  refine loop_W (P := fun st => ∀ (H : Heap) (locs : List Loc) (ls : Array Slot), wS E s mm H locs → lv_has ls 4 [(0, .ref x0), (1, .int x1), (2, .int st.1), (3, .int st.2)] → W p l e R s m args below meth c H locs 0 0 Q (F0 m 4 ls [])) (ex := ex4) ?_ FU _ hl4 H locs ls hS (lv_sub hl [2, 3, 1, 0] rfl)
  intro st y4 hf hyL4 hyR4 H locs ls hS hl
  obtain ⟨x2, x3⟩ := st
  have hf : fX2_wallAfter_b4 (eS E) x0 x1 x2 x3 mm = some y4 := hf
  have hS : wS E s mm H locs := hS
  have hl : lv_has ls 4 [(0, .ref x0), (1, .int x1), (2, .int x2), (3, .int x3)] := hl
  unfold fX2_wallAfter_b4 at hf
  refine lv_iload_n hx hb dX2_wallAfter_4 rfl (lv_at hl 3 rfl) ?_
  refine lv_bipush (v := 42) hx hb dX2_wallAfter_5 (by decide) ?_
  refine lv_icmp_ge (tgt := 31) hx hb dX2_wallAfter_7 (by decide) (fun q3 => ?_) (fun q3 => ?_)
  · have hf := ifp hf q3
    obtain rfl : x2 = ex4 := hyR4 _ (Option.some.inj hf).symm
    exact hj31 x2 H locs ls hk4 hS (lv_sub hl [2] rfl)
  · have hf := ifn hf q3
    refine lv_iload_n hx hb dX2_wallAfter_10 rfl (lv_at hl 2 rfl) ?_
    refine lv_iconst (v := 0) hx hb dX2_wallAfter_11 (by decide) ?_
    refine lv_aload_n hx hb dX2_wallAfter_12 rfl (lv_at hl 0 rfl) ?_
    obtain ⟨a4, h1, hf⟩ := bs hf
    refine am_gr X hS fl_X2_15 rfl h1 dX2_wallAfter_13 ?_
    refine lv_iload_n hx hb dX2_wallAfter_16 rfl (lv_at hl 3 rfl) ?_
    obtain ⟨v5, h1, hf⟩ := bs hf
    refine am_ald X hS h1 dX2_wallAfter_17 ?_
    refine lv_iload_n hx hb dX2_wallAfter_18 rfl (lv_at hl 1 rfl) ?_
    refine lv_isub hx hb dX2_wallAfter_19 ?_
    refine va_mmax hx hb (hml.trans hl.1.symm) X.2.2.2.1 (X.2.2.1 _ (inBi 955 (by decide +kernel))) (X.2.2.1 _ (inBi 850 (by decide +kernel))) (X.2.2.1 _ (inBi 117 (by decide +kernel))) (X.2.2.1 _ (inBi 851 (by decide +kernel))) (Nat.le_trans (by decide) hRa) (Nat.le_trans (Nat.le_of_ble_eq_true rfl) hRb) (Nat.zero_le _) (Nat.zero_le _) dX2_wallAfter_20 ?_
    refine lv_iadd hx hb dX2_wallAfter_23 ?_
    refine lv_topi (fun x2_6 e1 => ?_)
    have hf := lt1_n e1 hf
    refine lv_istore_n (lv' := [(2, .int x2_6), (0, .ref x0), (1, .int x1), (3, .int x3)]) hx hb dX2_wallAfter_24 rfl hl (by decide) rfl (fun ls hl => ?_)
    obtain ⟨x3_7, e1⟩ : ∃ z : Int32, z = x3 + 1 := ⟨_, rfl⟩
    have hf := lt1_n e1 hf
    refine lv_iinc (v := x3_7) (lv' := [(3, .int x3_7), (2, .int x2_6), (0, .ref x0), (1, .int x1)]) hx hb dX2_wallAfter_25 hl (k := 3) rfl (by rw [e1]; rfl) (by decide) rfl (fun ls hl => ?_)
    refine lv_goto (tgt := 4) hx hb dX2_wallAfter_28 (by decide) ?_
    exact hyL4 _ (Option.some.inj hf).symm H locs ls hS (lv_sub hl [2, 3, 1, 0] rfl)
set_option maxRecDepth 100000 in
theorem cX2_wallAfter_ok {l : Launch} {E : Ev} {x0 : Nat} {x1 : Int32} {mm : Mem} {r : Int32} (hf : fX2_wallAfter (eS E) x0 x1 mm = some r) : CtI l yX2_wallAfter cX2_wallAfter 4 (some .int) (1) (23) E [.ref x0, .int x1] mm r mm := by
  refine Met.ofW (cc := cX2_wallAfter) (maxL := 4) (ret := (some .int)) (by decide) rfl ?_
  intro p e s m args below meth c s₁ B hml hv
  obtain ⟨rfl, X, hS, hr, hlocks⟩ := am_in B hv
  refine am_entry (Nat.le_of_ble_eq_true rfl) (fun ls hl => ?_)
  exact wX2_wallAfter X hml ⟨Nat.le_refl _, Nat.le_refl _⟩ hf (fun pc H locs ls hn hd hS => am_ri X hS hr hn hd hlocks) _ _ ls hS hl
set_option maxHeartbeats 4000000 in
set_option maxRecDepth 100000 in
theorem wX2_leastPlace {p : Program} {l : Launch} {e : Env} {R : Room} {s : State} {m : MethodId} {args : Array Value} {below : List Frame} {meth : Method} {c : Code} {Q : State → Prop} {E : Ev} (X : Cx p s m args c cX2_leastPlace RX2 E) (hml : c.maxLocals = 4) (hR : 0 ≤ R.frames ∧ 0 ≤ R.locals) {x0 : Nat} {x1 : Int32} {mm : Mem} {r : Int32} (hf : fX2_leastPlace (eS E) x0 x1 mm = some r) (hret : ∀ (pc : Nat) (H : Heap) (locs : List Loc) (ls : Array Slot), narrow .int (.int r) = .int r → decode cX2_leastPlace pc = .ok (.ireturn, 1) → wS E s mm H locs → W p l e R s m args below meth c H locs 0 0 Q (F0 m pc ls [.int r])) : ∀ (H : Heap) (locs : List Loc) (ls : Array Slot), wS E s mm H locs → lv_has ls 4 [(0, .ref x0), (1, .int x1)] → W p l e R s m args below meth c H locs 0 0 Q (F0 m 0 ls []) := by
  have hx := X.1
  have hb := X.2.1
  have hR1 := hR.1
  have hR2 := hR.2
  have hRa : 0 ≤ R.frames := by omega
  have hRb : 0 ≤ R.locals := by omega
  unfold fX2_leastPlace at hf
  have hj55 : ∀ (x2 : Int32) (H : Heap) (locs : List Loc) (ls : Array Slot), fX2_leastPlace_j55 (eS E) x2 mm = some r → wS E s mm H locs → lv_has ls 4 [(2, .int x2)] → W p l e R s m args below meth c H locs 0 0 Q (F0 m 55 ls []) := by
    intro x2 H locs ls hf hS hl
    unfold fX2_leastPlace_j55 at hf
    refine lv_iload_n hx hb dX2_leastPlace_55 rfl (lv_at hl 0 rfl) ?_
    cases hf
    exact hret _ _ _ _ rfl dX2_leastPlace_56 hS
  intro H locs ls hS hl
  refine lv_iconst (v := (-1)) hx hb dX2_leastPlace_0 (by decide) ?_
  refine lv_topi (fun x2_1 e1 => ?_)
  have hf := lt1_n e1 hf
  refine lv_istore_n (lv' := [(2, .int x2_1), (0, .ref x0), (1, .int x1)]) hx hb dX2_leastPlace_1 rfl hl (by decide) rfl (fun ls hl => ?_)
  refine lv_iload_n hx hb dX2_leastPlace_2 rfl (lv_at hl 2 rfl) ?_
  refine lv_bipush (v := 7) hx hb dX2_leastPlace_3 (by decide) ?_
  refine lv_imul hx hb dX2_leastPlace_5 ?_
  refine lv_topi (fun x3_2 e1 => ?_)
  have hf := lt1_n e1 hf
  refine lv_istore_n (lv' := [(3, .int x3_2), (2, .int x2_1), (0, .ref x0), (1, .int x1)]) hx hb dX2_leastPlace_6 rfl hl (by decide) rfl (fun ls hl => ?_)
  obtain ⟨ex7, hl7, hk7⟩ := bs hf
  refine loop_W (P := fun st => ∀ (H : Heap) (locs : List Loc) (ls : Array Slot), wS E s mm H locs → lv_has ls 4 [(0, .ref x0), (1, .int x1), (2, .int st.1), (3, .int st.2)] → W p l e R s m args below meth c H locs 0 0 Q (F0 m 7 ls [])) (ex := ex7) ?_ FU _ hl7 H locs ls hS (lv_sub hl [2, 3, 1, 0] rfl)
  intro st y7 hf hyL7 hyR7 H locs ls hS hl
  obtain ⟨x2, x3⟩ := st
  have hf : fX2_leastPlace_b7 (eS E) x0 x1 x2 x3 mm = some y7 := hf
  have hS : wS E s mm H locs := hS
  have hl : lv_has ls 4 [(0, .ref x0), (1, .int x1), (2, .int x2), (3, .int x3)] := hl
  unfold fX2_leastPlace_b7 at hf
  have hj49 : ∀ (x2 : Int32) (x3 : Int32) (H : Heap) (locs : List Loc) (ls : Array Slot), fX2_leastPlace_j49 (eS E) x0 x1 x2 x3 mm = some y7 → wS E s mm H locs → lv_has ls 4 [(0, .ref x0), (1, .int x1), (2, .int x2), (3, .int x3)] → W p l e R s m args below meth c H locs 0 0 Q (F0 m 49 ls []) := by
    intro x2 x3 H locs ls hf hS hl
    unfold fX2_leastPlace_j49 at hf
    obtain ⟨x3_3, e1⟩ : ∃ z : Int32, z = x3 + 1 := ⟨_, rfl⟩
    have hf := lt1_n e1 hf
    refine lv_iinc (v := x3_3) (lv' := [(3, .int x3_3), (0, .ref x0), (1, .int x1), (2, .int x2)]) hx hb dX2_leastPlace_49 hl (k := 3) rfl (by rw [e1]; rfl) (by decide) rfl (fun ls hl => ?_)
    refine lv_goto (tgt := 7) hx hb dX2_leastPlace_52 (by decide) ?_
    exact hyL7 _ (Option.some.inj hf).symm H locs ls hS (lv_sub hl [1, 2, 3, 0] rfl)
  have hj42 : ∀ (x3 : Int32) (H : Heap) (locs : List Loc) (ls : Array Slot), fX2_leastPlace_j42 (eS E) x0 x1 x3 mm = some y7 → wS E s mm H locs → lv_has ls 4 [(0, .ref x0), (1, .int x1), (3, .int x3)] → W p l e R s m args below meth c H locs 0 0 Q (F0 m 42 ls []) := by
    intro x3 H locs ls hf hS hl
    unfold fX2_leastPlace_j42 at hf
    refine lv_aload_n hx hb dX2_leastPlace_42 rfl (lv_at hl 0 rfl) ?_
    obtain ⟨a4, h1, hf⟩ := bs hf
    refine am_gr X hS fl_X2_18 rfl h1 dX2_leastPlace_43 ?_
    refine lv_iload_n hx hb dX2_leastPlace_46 rfl (lv_at hl 2 rfl) ?_
    obtain ⟨v5, h1, hf⟩ := bs hf
    refine am_ald X hS h1 dX2_leastPlace_47 ?_
    refine lv_topi (fun x2_6 e1 => ?_)
    have hf := lt1_n e1 hf
    refine lv_istore_n (lv' := [(2, .int x2_6), (0, .ref x0), (1, .int x1), (3, .int x3)]) hx hb dX2_leastPlace_48 rfl hl (by decide) rfl (fun ls hl => ?_)
    exact hj49 x2_6 x3 H locs ls hf hS (lv_sub hl [1, 2, 0, 3] rfl)
  refine lv_iload_n hx hb dX2_leastPlace_7 rfl (lv_at hl 3 rfl) ?_
  refine lv_iload_n hx hb dX2_leastPlace_8 rfl (lv_at hl 1 rfl) ?_
  refine lv_bipush (v := 7) hx hb dX2_leastPlace_9 (by decide) ?_
  refine lv_imul hx hb dX2_leastPlace_11 ?_
  refine lv_bipush (v := 7) hx hb dX2_leastPlace_12 (by decide) ?_
  refine lv_iadd hx hb dX2_leastPlace_14 ?_
  refine lv_icmp_ge (tgt := 55) hx hb dX2_leastPlace_15 (by decide) (fun q7 => ?_) (fun q7 => ?_)
  · have hf := ifp hf q7
    obtain rfl : x2 = ex7 := hyR7 _ (Option.some.inj hf).symm
    exact hj55 x2 H locs ls hk7 hS (lv_sub hl [2] rfl)
  · have hf := ifn hf q7
    refine lv_aload_n hx hb dX2_leastPlace_18 rfl (lv_at hl 0 rfl) ?_
    obtain ⟨a8, h1, hf⟩ := bs hf
    refine am_gr X hS fl_X2_15 rfl h1 dX2_leastPlace_19 ?_
    refine lv_iload_n hx hb dX2_leastPlace_22 rfl (lv_at hl 3 rfl) ?_
    obtain ⟨v9, h1, hf⟩ := bs hf
    refine am_ald X hS h1 dX2_leastPlace_23 ?_
    refine lv_if_le (tgt := 49) hx hb dX2_leastPlace_24 (by decide) (fun q10 => ?_) (fun q10 => ?_)
    · have hf := ifp hf q10
      exact hj49 x2 x3 H locs ls hf hS hl
    · have hf := ifn hf q10
      refine lv_iload_n hx hb dX2_leastPlace_27 rfl (lv_at hl 2 rfl) ?_
      refine lv_iconst (v := (-1)) hx hb dX2_leastPlace_28 (by decide) ?_
      refine lv_icmp_eq (tgt := 42) hx hb dX2_leastPlace_29 (by decide) (fun q11 => ?_) (fun q11 => ?_)
      · have hf := ifp hf q11
        exact hj42 x3 H locs ls hf hS (lv_sub hl [0, 1, 3] rfl)
      · have hf := ifn hf q11
        refine lv_aload_n hx hb dX2_leastPlace_32 rfl (lv_at hl 0 rfl) ?_
        obtain ⟨a12, h1, hf⟩ := bs hf
        refine am_gr X hS fl_X2_18 rfl h1 dX2_leastPlace_33 ?_
        refine lv_iload_n hx hb dX2_leastPlace_36 rfl (lv_at hl 3 rfl) ?_
        obtain ⟨v13, h1, hf⟩ := bs hf
        refine am_ald X hS h1 dX2_leastPlace_37 ?_
        refine lv_iload_n hx hb dX2_leastPlace_38 rfl (lv_at hl 2 rfl) ?_
        refine lv_icmp_ge (tgt := 49) hx hb dX2_leastPlace_39 (by decide) (fun q14 => ?_) (fun q14 => ?_)
        · have hf := ifp hf q14
          exact hj49 x2 x3 H locs ls hf hS hl
        · have hf := ifn hf q14
          exact hj42 x3 H locs ls hf hS (lv_sub hl [0, 1, 3] rfl)
set_option maxRecDepth 100000 in
theorem cX2_leastPlace_ok {l : Launch} {E : Ev} {x0 : Nat} {x1 : Int32} {mm : Mem} {r : Int32} (hf : fX2_leastPlace (eS E) x0 x1 mm = some r) : CtI l yX2_leastPlace cX2_leastPlace 4 (some .int) (0) (0) E [.ref x0, .int x1] mm r mm := by
  refine Met.ofW (cc := cX2_leastPlace) (maxL := 4) (ret := (some .int)) (by decide) rfl ?_
  intro p e s m args below meth c s₁ B hml hv
  obtain ⟨rfl, X, hS, hr, hlocks⟩ := am_in B hv
  refine am_entry (Nat.le_of_ble_eq_true rfl) (fun ls hl => ?_)
  exact wX2_leastPlace X hml ⟨Nat.le_refl _, Nat.le_refl _⟩ hf (fun pc H locs ls hn hd hS => am_ri X hS hr hn hd hlocks) _ _ ls hS hl
set_option maxHeartbeats 4000000 in
set_option maxRecDepth 100000 in
theorem wX2_greatestPlace {p : Program} {l : Launch} {e : Env} {R : Room} {s : State} {m : MethodId} {args : Array Value} {below : List Frame} {meth : Method} {c : Code} {Q : State → Prop} {E : Ev} (X : Cx p s m args c cX2_greatestPlace RX2 E) (hml : c.maxLocals = 4) (hR : 1 ≤ R.frames ∧ 23 ≤ R.locals) {x0 : Nat} {x1 : Int32} {mm : Mem} {r : Int32} (hf : fX2_greatestPlace (eS E) x0 x1 mm = some r) (hret : ∀ (pc : Nat) (H : Heap) (locs : List Loc) (ls : Array Slot), narrow .int (.int r) = .int r → decode cX2_greatestPlace pc = .ok (.ireturn, 1) → wS E s mm H locs → W p l e R s m args below meth c H locs 0 0 Q (F0 m pc ls [.int r])) : ∀ (H : Heap) (locs : List Loc) (ls : Array Slot), wS E s mm H locs → lv_has ls 4 [(0, .ref x0), (1, .int x1)] → W p l e R s m args below meth c H locs 0 0 Q (F0 m 0 ls []) := by
  have hx := X.1
  have hb := X.2.1
  have hR1 := hR.1
  have hR2 := hR.2
  have hRa : 1 ≤ R.frames := by omega
  have hRb : 23 ≤ R.locals := by omega
  unfold fX2_greatestPlace at hf
  have hj44 : ∀ (x2 : Int32) (H : Heap) (locs : List Loc) (ls : Array Slot), fX2_greatestPlace_j44 (eS E) x2 mm = some r → wS E s mm H locs → lv_has ls 4 [(2, .int x2)] → W p l e R s m args below meth c H locs 0 0 Q (F0 m 44 ls []) := by
    intro x2 H locs ls hf hS hl
    unfold fX2_greatestPlace_j44 at hf
    refine lv_iload_n hx hb dX2_greatestPlace_44 rfl (lv_at hl 0 rfl) ?_
    cases hf
    exact hret _ _ _ _ rfl dX2_greatestPlace_45 hS
  intro H locs ls hS hl
  refine lv_iconst (v := (-1)) hx hb dX2_greatestPlace_0 (by decide) ?_
  refine lv_topi (fun x2_1 e1 => ?_)
  have hf := lt1_n e1 hf
  refine lv_istore_n (lv' := [(2, .int x2_1), (0, .ref x0), (1, .int x1)]) hx hb dX2_greatestPlace_1 rfl hl (by decide) rfl (fun ls hl => ?_)
  refine lv_iload_n hx hb dX2_greatestPlace_2 rfl (lv_at hl 2 rfl) ?_
  refine lv_bipush (v := 7) hx hb dX2_greatestPlace_3 (by decide) ?_
  refine lv_imul hx hb dX2_greatestPlace_5 ?_
  refine lv_topi (fun x3_2 e1 => ?_)
  have hf := lt1_n e1 hf
  refine lv_istore_n (lv' := [(3, .int x3_2), (2, .int x2_1), (0, .ref x0), (1, .int x1)]) hx hb dX2_greatestPlace_6 rfl hl (by decide) rfl (fun ls hl => ?_)
  obtain ⟨ex7, hl7, hk7⟩ := bs hf
  refine loop_W (P := fun st => ∀ (H : Heap) (locs : List Loc) (ls : Array Slot), wS E s mm H locs → lv_has ls 4 [(0, .ref x0), (1, .int x1), (2, .int st.1), (3, .int st.2)] → W p l e R s m args below meth c H locs 0 0 Q (F0 m 7 ls [])) (ex := ex7) ?_ FU _ hl7 H locs ls hS (lv_sub hl [2, 3, 1, 0] rfl)
  intro st y7 hf hyL7 hyR7 H locs ls hS hl
  obtain ⟨x2, x3⟩ := st
  have hf : fX2_greatestPlace_b7 (eS E) x0 x1 x2 x3 mm = some y7 := hf
  have hS : wS E s mm H locs := hS
  have hl : lv_has ls 4 [(0, .ref x0), (1, .int x1), (2, .int x2), (3, .int x3)] := hl
  unfold fX2_greatestPlace_b7 at hf
  have hj38 : ∀ (x2 : Int32) (x3 : Int32) (H : Heap) (locs : List Loc) (ls : Array Slot), fX2_greatestPlace_j38 (eS E) x0 x1 x2 x3 mm = some y7 → wS E s mm H locs → lv_has ls 4 [(0, .ref x0), (1, .int x1), (2, .int x2), (3, .int x3)] → W p l e R s m args below meth c H locs 0 0 Q (F0 m 38 ls []) := by
    intro x2 x3 H locs ls hf hS hl
    unfold fX2_greatestPlace_j38 at hf
    obtain ⟨x3_3, e1⟩ : ∃ z : Int32, z = x3 + 1 := ⟨_, rfl⟩
    have hf := lt1_n e1 hf
    refine lv_iinc (v := x3_3) (lv' := [(3, .int x3_3), (0, .ref x0), (1, .int x1), (2, .int x2)]) hx hb dX2_greatestPlace_38 hl (k := 3) rfl (by rw [e1]; rfl) (by decide) rfl (fun ls hl => ?_)
    refine lv_goto (tgt := 7) hx hb dX2_greatestPlace_41 (by decide) ?_
    exact hyL7 _ (Option.some.inj hf).symm H locs ls hS (lv_sub hl [1, 2, 3, 0] rfl)
  refine lv_iload_n hx hb dX2_greatestPlace_7 rfl (lv_at hl 3 rfl) ?_
  refine lv_iload_n hx hb dX2_greatestPlace_8 rfl (lv_at hl 1 rfl) ?_
  refine lv_bipush (v := 7) hx hb dX2_greatestPlace_9 (by decide) ?_
  refine lv_imul hx hb dX2_greatestPlace_11 ?_
  refine lv_bipush (v := 7) hx hb dX2_greatestPlace_12 (by decide) ?_
  refine lv_iadd hx hb dX2_greatestPlace_14 ?_
  refine lv_icmp_ge (tgt := 44) hx hb dX2_greatestPlace_15 (by decide) (fun q4 => ?_) (fun q4 => ?_)
  · have hf := ifp hf q4
    obtain rfl : x2 = ex7 := hyR7 _ (Option.some.inj hf).symm
    exact hj44 x2 H locs ls hk7 hS (lv_sub hl [2] rfl)
  · have hf := ifn hf q4
    refine lv_aload_n hx hb dX2_greatestPlace_18 rfl (lv_at hl 0 rfl) ?_
    obtain ⟨a5, h1, hf⟩ := bs hf
    refine am_gr X hS fl_X2_15 rfl h1 dX2_greatestPlace_19 ?_
    refine lv_iload_n hx hb dX2_greatestPlace_22 rfl (lv_at hl 3 rfl) ?_
    obtain ⟨v6, h1, hf⟩ := bs hf
    refine am_ald X hS h1 dX2_greatestPlace_23 ?_
    refine lv_if_le (tgt := 38) hx hb dX2_greatestPlace_24 (by decide) (fun q7 => ?_) (fun q7 => ?_)
    · have hf := ifp hf q7
      exact hj38 x2 x3 H locs ls hf hS hl
    · have hf := ifn hf q7
      refine lv_iload_n hx hb dX2_greatestPlace_27 rfl (lv_at hl 2 rfl) ?_
      refine lv_aload_n hx hb dX2_greatestPlace_28 rfl (lv_at hl 0 rfl) ?_
      obtain ⟨a8, h1, hf⟩ := bs hf
      refine am_gr X hS fl_X2_18 rfl h1 dX2_greatestPlace_29 ?_
      refine lv_iload_n hx hb dX2_greatestPlace_32 rfl (lv_at hl 3 rfl) ?_
      obtain ⟨v9, h1, hf⟩ := bs hf
      refine am_ald X hS h1 dX2_greatestPlace_33 ?_
      refine va_mmax hx hb (hml.trans hl.1.symm) X.2.2.2.1 (X.2.2.1 _ (inBi 955 (by decide +kernel))) (X.2.2.1 _ (inBi 850 (by decide +kernel))) (X.2.2.1 _ (inBi 117 (by decide +kernel))) (X.2.2.1 _ (inBi 851 (by decide +kernel))) (Nat.le_trans (by decide) hRa) (Nat.le_trans (Nat.le_of_ble_eq_true rfl) hRb) (Nat.zero_le _) (Nat.zero_le _) dX2_greatestPlace_34 ?_
      refine lv_topi (fun x2_10 e1 => ?_)
      have hf := lt1_n e1 hf
      refine lv_istore_n (lv' := [(2, .int x2_10), (0, .ref x0), (1, .int x1), (3, .int x3)]) hx hb dX2_greatestPlace_37 rfl hl (by decide) rfl (fun ls hl => ?_)
      exact hj38 x2_10 x3 H locs ls hf hS (lv_sub hl [1, 2, 0, 3] rfl)
set_option maxRecDepth 100000 in
theorem cX2_greatestPlace_ok {l : Launch} {E : Ev} {x0 : Nat} {x1 : Int32} {mm : Mem} {r : Int32} (hf : fX2_greatestPlace (eS E) x0 x1 mm = some r) : CtI l yX2_greatestPlace cX2_greatestPlace 4 (some .int) (1) (23) E [.ref x0, .int x1] mm r mm := by
  refine Met.ofW (cc := cX2_greatestPlace) (maxL := 4) (ret := (some .int)) (by decide) rfl ?_
  intro p e s m args below meth c s₁ B hml hv
  obtain ⟨rfl, X, hS, hr, hlocks⟩ := am_in B hv
  refine am_entry (Nat.le_of_ble_eq_true rfl) (fun ls hl => ?_)
  exact wX2_greatestPlace X hml ⟨Nat.le_refl _, Nat.le_refl _⟩ hf (fun pc H locs ls hn hd hS => am_ri X hS hr hn hd hlocks) _ _ ls hS hl
set_option maxHeartbeats 4000000 in
set_option maxRecDepth 100000 in
theorem wX2_muchNear {p : Program} {l : Launch} {e : Env} {R : Room} {s : State} {m : MethodId} {args : Array Value} {below : List Frame} {meth : Method} {c : Code} {Q : State → Prop} {E : Ev} (X : Cx p s m args c cX2_muchNear RX2 E) (hml : c.maxLocals = 5) (hR : 1 ≤ R.frames ∧ 23 ≤ R.locals) {x0 : Nat} {x1 : Int32} {x2 : Int32} {mm : Mem} {r : Int32} (hf : fX2_muchNear (eS E) x0 x1 x2 mm = some r) (hret : ∀ (pc : Nat) (H : Heap) (locs : List Loc) (ls : Array Slot), narrow .int (.int r) = .int r → decode cX2_muchNear pc = .ok (.ireturn, 1) → wS E s mm H locs → W p l e R s m args below meth c H locs 0 0 Q (F0 m pc ls [.int r])) : ∀ (H : Heap) (locs : List Loc) (ls : Array Slot), wS E s mm H locs → lv_has ls 5 [(0, .ref x0), (1, .int x1), (2, .int x2)] → W p l e R s m args below meth c H locs 0 0 Q (F0 m 0 ls []) := by
  have hx := X.1
  have hb := X.2.1
  have hR1 := hR.1
  have hR2 := hR.2
  have hRa : 1 ≤ R.frames := by omega
  have hRb : 23 ≤ R.locals := by omega
  unfold fX2_muchNear at hf
  have hj44 : ∀ (x3 : Int32) (H : Heap) (locs : List Loc) (ls : Array Slot), fX2_muchNear_j44 (eS E) x3 mm = some r → wS E s mm H locs → lv_has ls 5 [(3, .int x3)] → W p l e R s m args below meth c H locs 0 0 Q (F0 m 44 ls []) := by
    intro x3 H locs ls hf hS hl
    unfold fX2_muchNear_j44 at hf
    refine lv_iload_n hx hb dX2_muchNear_44 rfl (lv_at hl 0 rfl) ?_
    cases hf
    exact hret _ _ _ _ rfl dX2_muchNear_45 hS
  intro H locs ls hS hl
  refine lv_iconst (v := 0) hx hb dX2_muchNear_0 (by decide) ?_
  refine lv_topi (fun x3_1 e1 => ?_)
  have hf := lt1_n e1 hf
  refine lv_istore_n (lv' := [(3, .int x3_1), (0, .ref x0), (1, .int x1), (2, .int x2)]) hx hb dX2_muchNear_1 rfl hl (by decide) rfl (fun ls hl => ?_)
  refine lv_iconst (v := 0) hx hb dX2_muchNear_2 (by decide) ?_
  refine lv_topi (fun x4_2 e1 => ?_)
  have hf := lt1_n e1 hf
  refine lv_istore (lv' := [(4, .int x4_2), (3, .int x3_1), (0, .ref x0), (1, .int x1), (2, .int x2)]) hx hb dX2_muchNear_3 hl (by decide) rfl (fun ls hl => ?_)
  obtain ⟨ex5, hl5, hk5⟩ := bs hf
  refine loop_W (P := fun st => ∀ (H : Heap) (locs : List Loc) (ls : Array Slot), wS E s mm H locs → lv_has ls 5 [(0, .ref x0), (1, .int x1), (2, .int x2), (3, .int st.1), (4, .int st.2)] → W p l e R s m args below meth c H locs 0 0 Q (F0 m 5 ls [])) (ex := ex5) ?_ FU _ hl5 H locs ls hS (lv_sub hl [2, 3, 4, 1, 0] rfl)
  intro st y5 hf hyL5 hyR5 H locs ls hS hl
  obtain ⟨x3, x4⟩ := st
  have hf : fX2_muchNear_b5 (eS E) x0 x1 x2 x3 x4 mm = some y5 := hf
  have hS : wS E s mm H locs := hS
  have hl : lv_has ls 5 [(0, .ref x0), (1, .int x1), (2, .int x2), (3, .int x3), (4, .int x4)] := hl
  unfold fX2_muchNear_b5 at hf
  have hj38 : ∀ (x3 : Int32) (x4 : Int32) (H : Heap) (locs : List Loc) (ls : Array Slot), fX2_muchNear_j38 (eS E) x0 x1 x2 x3 x4 mm = some y5 → wS E s mm H locs → lv_has ls 5 [(0, .ref x0), (1, .int x1), (2, .int x2), (3, .int x3), (4, .int x4)] → W p l e R s m args below meth c H locs 0 0 Q (F0 m 38 ls []) := by
    intro x3 x4 H locs ls hf hS hl
    unfold fX2_muchNear_j38 at hf
    obtain ⟨x4_3, e1⟩ : ∃ z : Int32, z = x4 + 1 := ⟨_, rfl⟩
    have hf := lt1_n e1 hf
    refine lv_iinc (v := x4_3) (lv' := [(4, .int x4_3), (0, .ref x0), (1, .int x1), (2, .int x2), (3, .int x3)]) hx hb dX2_muchNear_38 hl (k := 4) rfl (by rw [e1]; rfl) (by decide) rfl (fun ls hl => ?_)
    refine lv_goto (tgt := 5) hx hb dX2_muchNear_41 (by decide) ?_
    exact hyL5 _ (Option.some.inj hf).symm H locs ls hS (lv_sub hl [1, 2, 3, 4, 0] rfl)
  refine lv_iload hx hb dX2_muchNear_5 (lv_at hl 4 rfl) ?_
  refine lv_bipush (v := 42) hx hb dX2_muchNear_7 (by decide) ?_
  refine lv_icmp_ge (tgt := 44) hx hb dX2_muchNear_9 (by decide) (fun q4 => ?_) (fun q4 => ?_)
  · have hf := ifp hf q4
    obtain rfl : x3 = ex5 := hyR5 _ (Option.some.inj hf).symm
    exact hj44 x3 H locs ls hk5 hS (lv_sub hl [3] rfl)
  · have hf := ifn hf q4
    refine lv_aload_n hx hb dX2_muchNear_12 rfl (lv_at hl 0 rfl) ?_
    obtain ⟨a5, h1, hf⟩ := bs hf
    refine am_gr X hS fl_X2_18 rfl h1 dX2_muchNear_13 ?_
    refine lv_iload hx hb dX2_muchNear_16 (lv_at hl 4 rfl) ?_
    obtain ⟨v6, h1, hf⟩ := bs hf
    refine am_ald X hS h1 dX2_muchNear_18 ?_
    refine lv_iload_n hx hb dX2_muchNear_19 rfl (lv_at hl 1 rfl) ?_
    refine lv_isub hx hb dX2_muchNear_20 ?_
    refine va_mabs hx hb (hml.trans hl.1.symm) X.2.2.2.1 (X.2.2.1 _ (inBi 530 (by decide +kernel))) (X.2.2.1 _ (inBi 531 (by decide +kernel))) (X.2.2.1 _ (inBi 117 (by decide +kernel))) (X.2.2.1 _ (inBi 532 (by decide +kernel))) (Nat.le_trans (by decide) hRa) (Nat.le_trans (Nat.le_of_ble_eq_true rfl) hRb) (Nat.zero_le _) (Nat.zero_le _) dX2_muchNear_21 ?_
    refine lv_iload_n hx hb dX2_muchNear_24 rfl (lv_at hl 2 rfl) ?_
    refine lv_icmp_gt (tgt := 38) hx hb dX2_muchNear_25 (by decide) (fun q7 => ?_) (fun q7 => ?_)
    · have hf := ifp hf q7
      exact hj38 x3 x4 H locs ls hf hS hl
    · have hf := ifn hf q7
      refine lv_iload_n hx hb dX2_muchNear_28 rfl (lv_at hl 3 rfl) ?_
      refine lv_aload_n hx hb dX2_muchNear_29 rfl (lv_at hl 0 rfl) ?_
      obtain ⟨a8, h1, hf⟩ := bs hf
      refine am_gr X hS fl_X2_15 rfl h1 dX2_muchNear_30 ?_
      refine lv_iload hx hb dX2_muchNear_33 (lv_at hl 4 rfl) ?_
      obtain ⟨v9, h1, hf⟩ := bs hf
      refine am_ald X hS h1 dX2_muchNear_35 ?_
      refine lv_iadd hx hb dX2_muchNear_36 ?_
      refine lv_topi (fun x3_10 e1 => ?_)
      have hf := lt1_n e1 hf
      refine lv_istore_n (lv' := [(3, .int x3_10), (0, .ref x0), (1, .int x1), (2, .int x2), (4, .int x4)]) hx hb dX2_muchNear_37 rfl hl (by decide) rfl (fun ls hl => ?_)
      exact hj38 x3_10 x4 H locs ls hf hS (lv_sub hl [1, 2, 3, 0, 4] rfl)
set_option maxRecDepth 100000 in
theorem cX2_muchNear_ok {l : Launch} {E : Ev} {x0 : Nat} {x1 : Int32} {x2 : Int32} {mm : Mem} {r : Int32} (hf : fX2_muchNear (eS E) x0 x1 x2 mm = some r) : CtI l yX2_muchNear cX2_muchNear 5 (some .int) (1) (23) E [.ref x0, .int x1, .int x2] mm r mm := by
  refine Met.ofW (cc := cX2_muchNear) (maxL := 5) (ret := (some .int)) (by decide) rfl ?_
  intro p e s m args below meth c s₁ B hml hv
  obtain ⟨rfl, X, hS, hr, hlocks⟩ := am_in B hv
  refine am_entry (Nat.le_of_ble_eq_true rfl) (fun ls hl => ?_)
  exact wX2_muchNear X hml ⟨Nat.le_refl _, Nat.le_refl _⟩ hf (fun pc H locs ls hn hd hS => am_ri X hS hr hn hd hlocks) _ _ ls hS hl
set_option maxHeartbeats 4000000 in
set_option maxRecDepth 100000 in
theorem wX2_mostPart {p : Program} {l : Launch} {e : Env} {R : Room} {s : State} {m : MethodId} {args : Array Value} {below : List Frame} {meth : Method} {c : Code} {Q : State → Prop} {E : Ev} (X : Cx p s m args c cX2_mostPart RX2 E) (hml : c.maxLocals = 4) (hR : 0 ≤ R.frames ∧ 0 ≤ R.locals) {x0 : Nat} {x1 : Int32} {mm : Mem} {r : Int32} (hf : fX2_mostPart (eS E) x0 x1 mm = some r) (hret : ∀ (pc : Nat) (H : Heap) (locs : List Loc) (ls : Array Slot), narrow .int (.int r) = .int r → decode cX2_mostPart pc = .ok (.ireturn, 1) → wS E s mm H locs → W p l e R s m args below meth c H locs 0 0 Q (F0 m pc ls [.int r])) : ∀ (H : Heap) (locs : List Loc) (ls : Array Slot), wS E s mm H locs → lv_has ls 4 [(0, .ref x0), (1, .int x1)] → W p l e R s m args below meth c H locs 0 0 Q (F0 m 0 ls []) := by
  have hx := X.1
  have hb := X.2.1
  have hR1 := hR.1
  have hR2 := hR.2
  have hRa : 0 ≤ R.frames := by omega
  have hRb : 0 ≤ R.locals := by omega
  unfold fX2_mostPart at hf
  have hj43 : ∀ (x2 : Int32) (H : Heap) (locs : List Loc) (ls : Array Slot), fX2_mostPart_j43 (eS E) x2 mm = some r → wS E s mm H locs → lv_has ls 4 [(2, .int x2)] → W p l e R s m args below meth c H locs 0 0 Q (F0 m 43 ls []) := by
    intro x2 H locs ls hf hS hl
    unfold fX2_mostPart_j43 at hf
    refine lv_iload_n hx hb dX2_mostPart_43 rfl (lv_at hl 0 rfl) ?_
    cases hf
    exact hret _ _ _ _ rfl dX2_mostPart_44 hS
  intro H locs ls hS hl
  refine lv_iconst (v := 0) hx hb dX2_mostPart_0 (by decide) ?_
  refine lv_topi (fun x2_1 e1 => ?_)
  have hf := lt1_n e1 hf
  refine lv_istore_n (lv' := [(2, .int x2_1), (0, .ref x0), (1, .int x1)]) hx hb dX2_mostPart_1 rfl hl (by decide) rfl (fun ls hl => ?_)
  refine lv_iconst (v := 1) hx hb dX2_mostPart_2 (by decide) ?_
  refine lv_topi (fun x3_2 e1 => ?_)
  have hf := lt1_n e1 hf
  refine lv_istore_n (lv' := [(3, .int x3_2), (2, .int x2_1), (0, .ref x0), (1, .int x1)]) hx hb dX2_mostPart_3 rfl hl (by decide) rfl (fun ls hl => ?_)
  obtain ⟨ex4, hl4, hk4⟩ := bs hf
  refine loop_W (P := fun st => ∀ (H : Heap) (locs : List Loc) (ls : Array Slot), wS E s mm H locs → lv_has ls 4 [(0, .ref x0), (1, .int x1), (2, .int st.1), (3, .int st.2)] → W p l e R s m args below meth c H locs 0 0 Q (F0 m 4 ls [])) (ex := ex4) ?_ FU _ hl4 H locs ls hS (lv_sub hl [2, 3, 1, 0] rfl)
  intro st y4 hf hyL4 hyR4 H locs ls hS hl
  obtain ⟨x2, x3⟩ := st
  have hf : fX2_mostPart_b4 (eS E) x0 x1 x2 x3 mm = some y4 := hf
  have hS : wS E s mm H locs := hS
  have hl : lv_has ls 4 [(0, .ref x0), (1, .int x1), (2, .int x2), (3, .int x3)] := hl
  unfold fX2_mostPart_b4 at hf
  have hj37 : ∀ (x2 : Int32) (x3 : Int32) (H : Heap) (locs : List Loc) (ls : Array Slot), fX2_mostPart_j37 (eS E) x0 x1 x2 x3 mm = some y4 → wS E s mm H locs → lv_has ls 4 [(0, .ref x0), (1, .int x1), (2, .int x2), (3, .int x3)] → W p l e R s m args below meth c H locs 0 0 Q (F0 m 37 ls []) := by
    intro x2 x3 H locs ls hf hS hl
    unfold fX2_mostPart_j37 at hf
    obtain ⟨x3_3, e1⟩ : ∃ z : Int32, z = x3 + 1 := ⟨_, rfl⟩
    have hf := lt1_n e1 hf
    refine lv_iinc (v := x3_3) (lv' := [(3, .int x3_3), (0, .ref x0), (1, .int x1), (2, .int x2)]) hx hb dX2_mostPart_37 hl (k := 3) rfl (by rw [e1]; rfl) (by decide) rfl (fun ls hl => ?_)
    refine lv_goto (tgt := 4) hx hb dX2_mostPart_40 (by decide) ?_
    exact hyL4 _ (Option.some.inj hf).symm H locs ls hS (lv_sub hl [1, 2, 3, 0] rfl)
  refine lv_iload_n hx hb dX2_mostPart_4 rfl (lv_at hl 3 rfl) ?_
  refine lv_bipush (v := 7) hx hb dX2_mostPart_5 (by decide) ?_
  refine lv_icmp_ge (tgt := 43) hx hb dX2_mostPart_7 (by decide) (fun q4 => ?_) (fun q4 => ?_)
  · have hf := ifp hf q4
    obtain rfl : x2 = ex4 := hyR4 _ (Option.some.inj hf).symm
    exact hj43 x2 H locs ls hk4 hS (lv_sub hl [2] rfl)
  · have hf := ifn hf q4
    refine lv_aload_n hx hb dX2_mostPart_10 rfl (lv_at hl 0 rfl) ?_
    obtain ⟨a5, h1, hf⟩ := bs hf
    refine am_gr X hS fl_X2_9 rfl h1 dX2_mostPart_11 ?_
    refine lv_iload_n hx hb dX2_mostPart_14 rfl (lv_at hl 1 rfl) ?_
    refine lv_bipush (v := 7) hx hb dX2_mostPart_15 (by decide) ?_
    refine lv_imul hx hb dX2_mostPart_17 ?_
    refine lv_iload_n hx hb dX2_mostPart_18 rfl (lv_at hl 3 rfl) ?_
    refine lv_iadd hx hb dX2_mostPart_19 ?_
    obtain ⟨v6, h1, hf⟩ := bs hf
    refine am_ald X hS h1 dX2_mostPart_20 ?_
    refine lv_aload_n hx hb dX2_mostPart_21 rfl (lv_at hl 0 rfl) ?_
    obtain ⟨a7, h1, hf⟩ := bs hf
    refine am_gr X hS fl_X2_9 rfl h1 dX2_mostPart_22 ?_
    refine lv_iload_n hx hb dX2_mostPart_25 rfl (lv_at hl 1 rfl) ?_
    refine lv_bipush (v := 7) hx hb dX2_mostPart_26 (by decide) ?_
    refine lv_imul hx hb dX2_mostPart_28 ?_
    refine lv_iload_n hx hb dX2_mostPart_29 rfl (lv_at hl 2 rfl) ?_
    refine lv_iadd hx hb dX2_mostPart_30 ?_
    obtain ⟨v8, h1, hf⟩ := bs hf
    refine am_ald X hS h1 dX2_mostPart_31 ?_
    refine lv_icmp_le (tgt := 37) hx hb dX2_mostPart_32 (by decide) (fun q9 => ?_) (fun q9 => ?_)
    · have hf := ifp hf q9
      exact hj37 x2 x3 H locs ls hf hS hl
    · have hf := ifn hf q9
      refine lv_iload_n hx hb dX2_mostPart_35 rfl (lv_at hl 3 rfl) ?_
      refine lv_topi (fun x2_10 e1 => ?_)
      have hf := lt1_n e1 hf
      refine lv_istore_n (lv' := [(2, .int x2_10), (0, .ref x0), (1, .int x1), (3, .int x3)]) hx hb dX2_mostPart_36 rfl hl (by decide) rfl (fun ls hl => ?_)
      exact hj37 x2_10 x3 H locs ls hf hS (lv_sub hl [1, 2, 0, 3] rfl)
set_option maxRecDepth 100000 in
theorem cX2_mostPart_ok {l : Launch} {E : Ev} {x0 : Nat} {x1 : Int32} {mm : Mem} {r : Int32} (hf : fX2_mostPart (eS E) x0 x1 mm = some r) : CtI l yX2_mostPart cX2_mostPart 4 (some .int) (0) (0) E [.ref x0, .int x1] mm r mm := by
  refine Met.ofW (cc := cX2_mostPart) (maxL := 4) (ret := (some .int)) (by decide) rfl ?_
  intro p e s m args below meth c s₁ B hml hv
  obtain ⟨rfl, X, hS, hr, hlocks⟩ := am_in B hv
  refine am_entry (Nat.le_of_ble_eq_true rfl) (fun ls hl => ?_)
  exact wX2_mostPart X hml ⟨Nat.le_refl _, Nat.le_refl _⟩ hf (fun pc H locs ls hn hd hS => am_ri X hS hr hn hd hlocks) _ _ ls hS hl
set_option maxHeartbeats 4000000 in
set_option maxRecDepth 100000 in
theorem wX2_isBlurred {p : Program} {l : Launch} {e : Env} {R : Room} {s : State} {m : MethodId} {args : Array Value} {below : List Frame} {meth : Method} {c : Code} {Q : State → Prop} {E : Ev} (X : Cx p s m args c cX2_isBlurred RX2 E) (hml : c.maxLocals = 4) (hR : 0 ≤ R.frames ∧ 0 ≤ R.locals) {x0 : Nat} {x1 : Int32} {mm : Mem} {r : Int32} (hf : fX2_isBlurred (eS E) x0 x1 mm = some r) (hret : ∀ (pc : Nat) (H : Heap) (locs : List Loc) (ls : Array Slot), narrow .boolean (.int r) = .int r → decode cX2_isBlurred pc = .ok (.ireturn, 1) → wS E s mm H locs → W p l e R s m args below meth c H locs 0 0 Q (F0 m pc ls [.int r])) : ∀ (H : Heap) (locs : List Loc) (ls : Array Slot), wS E s mm H locs → lv_has ls 4 [(0, .ref x0), (1, .int x1)] → W p l e R s m args below meth c H locs 0 0 Q (F0 m 0 ls []) := by
  have hx := X.1
  have hb := X.2.1
  have hR1 := hR.1
  have hR2 := hR.2
  have hRa : 0 ≤ R.frames := by omega
  have hRb : 0 ≤ R.locals := by omega
  unfold fX2_isBlurred at hf
  have hj73 : ∀ (H : Heap) (locs : List Loc) (ls : Array Slot), fX2_isBlurred_j73 (eS E) mm = some r → wS E s mm H locs → lv_has ls 4 [] → W p l e R s m args below meth c H locs 0 0 Q (F0 m 73 ls []) := by
    intro H locs ls hf hS hl
    unfold fX2_isBlurred_j73 at hf
    refine lv_iconst (v := 0) hx hb dX2_isBlurred_73 (by decide) ?_
    cases hf
    exact hret _ _ _ _ rfl dX2_isBlurred_74 hS
  have hj59 : ∀ (H : Heap) (locs : List Loc) (ls : Array Slot), fX2_isBlurred_j59 (eS E) mm = some r → wS E s mm H locs → lv_has ls 4 [] → W p l e R s m args below meth c H locs 0 0 Q (F0 m 59 ls []) := by
    intro H locs ls hf hS hl
    unfold fX2_isBlurred_j59 at hf
    refine lv_iconst (v := 1) hx hb dX2_isBlurred_59 (by decide) ?_
    cases hf
    exact hret _ _ _ _ rfl dX2_isBlurred_60 hS
  intro H locs ls hS hl
  refine lv_iload_n hx hb dX2_isBlurred_0 rfl (lv_at hl 1 rfl) ?_
  refine lv_bipush (v := 7) hx hb dX2_isBlurred_1 (by decide) ?_
  refine lv_imul hx hb dX2_isBlurred_3 ?_
  refine lv_topi (fun x2_1 e1 => ?_)
  have hf := lt1_n e1 hf
  refine lv_istore_n (lv' := [(2, .int x2_1), (0, .ref x0), (1, .int x1)]) hx hb dX2_isBlurred_4 rfl hl (by decide) rfl (fun ls hl => ?_)
  obtain ⟨ex5, hl5, hk5⟩ := bs hf
  refine loop_W (P := fun st => ∀ (H : Heap) (locs : List Loc) (ls : Array Slot), wS E s mm H locs → lv_has ls 4 [(0, .ref x0), (1, .int x1), (2, .int st)] → W p l e R s m args below meth c H locs 0 0 Q (F0 m 5 ls [])) (ex := ex5) ?_ FU _ hl5 H locs ls hS (lv_sub hl [1, 2, 0] rfl)
  intro st y5 hf hyL5 hyR5 H locs ls hS hl
  obtain ⟨x2, rfl⟩ : ∃ z, z = st := ⟨_, rfl⟩
  have hf : fX2_isBlurred_b5 (eS E) x0 x1 x2 mm = some y5 := hf
  have hS : wS E s mm H locs := hS
  have hl : lv_has ls 4 [(0, .ref x0), (1, .int x1), (2, .int x2)] := hl
  unfold fX2_isBlurred_b5 at hf
  have hj67 : ∀ (x2 : Int32) (H : Heap) (locs : List Loc) (ls : Array Slot), fX2_isBlurred_j67 (eS E) x0 x1 x2 mm = some y5 → wS E s mm H locs → lv_has ls 4 [(0, .ref x0), (1, .int x1), (2, .int x2)] → W p l e R s m args below meth c H locs 0 0 Q (F0 m 67 ls []) := by
    intro x2 H locs ls hf hS hl
    unfold fX2_isBlurred_j67 at hf
    obtain ⟨x2_2, e1⟩ : ∃ z : Int32, z = x2 + 1 := ⟨_, rfl⟩
    have hf := lt1_n e1 hf
    refine lv_iinc (v := x2_2) (lv' := [(2, .int x2_2), (0, .ref x0), (1, .int x1)]) hx hb dX2_isBlurred_67 hl (k := 2) rfl (by rw [e1]; rfl) (by decide) rfl (fun ls hl => ?_)
    refine lv_goto (tgt := 5) hx hb dX2_isBlurred_70 (by decide) ?_
    exact hyL5 _ (Option.some.inj hf).symm H locs ls hS (lv_sub hl [1, 2, 0] rfl)
  refine lv_iload_n hx hb dX2_isBlurred_5 rfl (lv_at hl 2 rfl) ?_
  refine lv_iload_n hx hb dX2_isBlurred_6 rfl (lv_at hl 1 rfl) ?_
  refine lv_bipush (v := 7) hx hb dX2_isBlurred_7 (by decide) ?_
  refine lv_imul hx hb dX2_isBlurred_9 ?_
  refine lv_bipush (v := 7) hx hb dX2_isBlurred_10 (by decide) ?_
  refine lv_iadd hx hb dX2_isBlurred_12 ?_
  refine lv_icmp_ge (tgt := 73) hx hb dX2_isBlurred_13 (by decide) (fun q3 => ?_) (fun q3 => ?_)
  · have hf := ifp hf q3
    obtain rfl : Sum.inr (()) = ex5 := hyR5 _ (Option.some.inj hf).symm
    exact hj73  H locs ls hk5 hS (lv_sub hl [] rfl)
  · have hf := ifn hf q3
    refine lv_iload_n hx hb dX2_isBlurred_16 rfl (lv_at hl 1 rfl) ?_
    refine lv_bipush (v := 7) hx hb dX2_isBlurred_17 (by decide) ?_
    refine lv_imul hx hb dX2_isBlurred_19 ?_
    refine lv_topi (fun x3_4 e1 => ?_)
    have hf := lt1_n e1 hf
    refine lv_istore_n (lv' := [(3, .int x3_4), (0, .ref x0), (1, .int x1), (2, .int x2)]) hx hb dX2_isBlurred_20 rfl hl (by decide) rfl (fun ls hl => ?_)
    obtain ⟨ex21, hl21, hk21⟩ := bs hf
    refine loop_W (P := fun st => ∀ (H : Heap) (locs : List Loc) (ls : Array Slot), wS E s mm H locs → lv_has ls 4 [(0, .ref x0), (1, .int x1), (2, .int x2), (3, .int st)] → W p l e R s m args below meth c H locs 0 0 Q (F0 m 21 ls [])) (ex := ex21) ?_ FU _ hl21 H locs ls hS (lv_sub hl [1, 2, 3, 0] rfl)
    intro st y21 hf hyL21 hyR21 H locs ls hS hl
    obtain ⟨x3, rfl⟩ : ∃ z, z = st := ⟨_, rfl⟩
    have hf : fX2_isBlurred_b21 (eS E) x0 x1 x2 x3 mm = some y21 := hf
    have hS : wS E s mm H locs := hS
    have hl : lv_has ls 4 [(0, .ref x0), (1, .int x1), (2, .int x2), (3, .int x3)] := hl
    unfold fX2_isBlurred_b21 at hf
    have hj61 : ∀ (x3 : Int32) (H : Heap) (locs : List Loc) (ls : Array Slot), fX2_isBlurred_j61 (eS E) x0 x1 x2 x3 mm = some y21 → wS E s mm H locs → lv_has ls 4 [(0, .ref x0), (1, .int x1), (2, .int x2), (3, .int x3)] → W p l e R s m args below meth c H locs 0 0 Q (F0 m 61 ls []) := by
      intro x3 H locs ls hf hS hl
      unfold fX2_isBlurred_j61 at hf
      obtain ⟨x3_5, e1⟩ : ∃ z : Int32, z = x3 + 1 := ⟨_, rfl⟩
      have hf := lt1_n e1 hf
      refine lv_iinc (v := x3_5) (lv' := [(3, .int x3_5), (0, .ref x0), (1, .int x1), (2, .int x2)]) hx hb dX2_isBlurred_61 hl (k := 3) rfl (by rw [e1]; rfl) (by decide) rfl (fun ls hl => ?_)
      refine lv_goto (tgt := 21) hx hb dX2_isBlurred_64 (by decide) ?_
      exact hyL21 _ (Option.some.inj hf).symm H locs ls hS (lv_sub hl [1, 2, 3, 0] rfl)
    refine lv_iload_n hx hb dX2_isBlurred_21 rfl (lv_at hl 3 rfl) ?_
    refine lv_iload_n hx hb dX2_isBlurred_22 rfl (lv_at hl 2 rfl) ?_
    refine lv_icmp_ge (tgt := 67) hx hb dX2_isBlurred_23 (by decide) (fun q6 => ?_) (fun q6 => ?_)
    · have hf := ifp hf q6
      obtain rfl : Sum.inr (()) = ex21 := hyR21 _ (Option.some.inj hf).symm
      exact hj67 x2 H locs ls hk21 hS (lv_sub hl [0, 1, 2] rfl)
    · have hf := ifn hf q6
      refine lv_aload_n hx hb dX2_isBlurred_26 rfl (lv_at hl 0 rfl) ?_
      obtain ⟨a7, h1, hf⟩ := bs hf
      refine am_gr X hS fl_X2_15 rfl h1 dX2_isBlurred_27 ?_
      refine lv_iload_n hx hb dX2_isBlurred_30 rfl (lv_at hl 2 rfl) ?_
      obtain ⟨v8, h1, hf⟩ := bs hf
      refine am_ald X hS h1 dX2_isBlurred_31 ?_
      refine lv_if_le (tgt := 61) hx hb dX2_isBlurred_32 (by decide) (fun q9 => ?_) (fun q9 => ?_)
      · have hf := ifp hf q9
        exact hj61 x3 H locs ls hf hS hl
      · have hf := ifn hf q9
        refine lv_aload_n hx hb dX2_isBlurred_35 rfl (lv_at hl 0 rfl) ?_
        obtain ⟨a10, h1, hf⟩ := bs hf
        refine am_gr X hS fl_X2_15 rfl h1 dX2_isBlurred_36 ?_
        refine lv_iload_n hx hb dX2_isBlurred_39 rfl (lv_at hl 3 rfl) ?_
        obtain ⟨v11, h1, hf⟩ := bs hf
        refine am_ald X hS h1 dX2_isBlurred_40 ?_
        refine lv_if_le (tgt := 61) hx hb dX2_isBlurred_41 (by decide) (fun q12 => ?_) (fun q12 => ?_)
        · have hf := ifp hf q12
          exact hj61 x3 H locs ls hf hS hl
        · have hf := ifn hf q12
          refine lv_aload_n hx hb dX2_isBlurred_44 rfl (lv_at hl 0 rfl) ?_
          obtain ⟨a13, h1, hf⟩ := bs hf
          refine am_gr X hS fl_X2_18 rfl h1 dX2_isBlurred_45 ?_
          refine lv_iload_n hx hb dX2_isBlurred_48 rfl (lv_at hl 2 rfl) ?_
          obtain ⟨v14, h1, hf⟩ := bs hf
          refine am_ald X hS h1 dX2_isBlurred_49 ?_
          refine lv_aload_n hx hb dX2_isBlurred_50 rfl (lv_at hl 0 rfl) ?_
          obtain ⟨a15, h1, hf⟩ := bs hf
          refine am_gr X hS fl_X2_18 rfl h1 dX2_isBlurred_51 ?_
          refine lv_iload_n hx hb dX2_isBlurred_54 rfl (lv_at hl 3 rfl) ?_
          obtain ⟨v16, h1, hf⟩ := bs hf
          refine am_ald X hS h1 dX2_isBlurred_55 ?_
          refine lv_icmp_ne (tgt := 61) hx hb dX2_isBlurred_56 (by decide) (fun q17 => ?_) (fun q17 => ?_)
          · have hf := ifn hf q17
            exact hj61 x3 H locs ls hf hS hl
          · have hf := ifp hf q17
            obtain rfl : Sum.inl () = ex21 := hyR21 _ (Option.some.inj hf).symm
            obtain rfl : Sum.inl () = ex5 := hyR5 _ (Option.some.inj hk21).symm
            exact hj59  H locs ls hk5 hS (lv_sub hl [] rfl)
set_option maxRecDepth 100000 in
theorem cX2_isBlurred_ok {l : Launch} {E : Ev} {x0 : Nat} {x1 : Int32} {mm : Mem} {r : Int32} (hf : fX2_isBlurred (eS E) x0 x1 mm = some r) : CtI l yX2_isBlurred cX2_isBlurred 4 (some .boolean) (0) (0) E [.ref x0, .int x1] mm r mm := by
  refine Met.ofW (cc := cX2_isBlurred) (maxL := 4) (ret := (some .boolean)) (by decide) rfl ?_
  intro p e s m args below meth c s₁ B hml hv
  obtain ⟨rfl, X, hS, hr, hlocks⟩ := am_in B hv
  refine am_entry (Nat.le_of_ble_eq_true rfl) (fun ls hl => ?_)
  exact wX2_isBlurred X hml ⟨Nat.le_refl _, Nat.le_refl _⟩ hf (fun pc H locs ls hn hd hS => am_ri X hS hr hn hd hlocks) _ _ ls hS hl
set_option maxHeartbeats 4000000 in
set_option maxRecDepth 100000 in
theorem wJ6_bitCount_0f7a4 {p : Program} {l : Launch} {e : Env} {R : Room} {s : State} {m : MethodId} {args : Array Value} {below : List Frame} {meth : Method} {c : Code} {Q : State → Prop} {E : Ev} (X : Cx p s m args c cJ6_bitCount_0f7a4 RJ6 E) (hml : c.maxLocals = 1) (hR : 0 ≤ R.frames ∧ 0 ≤ R.locals) {x0 : Int32} {mm : Mem} {r : Int32} (hf : fJ6_bitCount_0f7a4 x0 = some r) (hret : ∀ (pc : Nat) (H : Heap) (locs : List Loc) (ls : Array Slot), narrow .int (.int r) = .int r → decode cJ6_bitCount_0f7a4 pc = .ok (.ireturn, 1) → wS E s mm H locs → W p l e R s m args below meth c H locs 0 0 Q (F0 m pc ls [.int r])) : ∀ (H : Heap) (locs : List Loc) (ls : Array Slot), wS E s mm H locs → lv_has ls 1 [(0, .int x0)] → W p l e R s m args below meth c H locs 0 0 Q (F0 m 0 ls []) := by
  have hx := X.1
  have hb := X.2.1
  have hR1 := hR.1
  have hR2 := hR.2
  have hRa : 0 ≤ R.frames := by omega
  have hRb : 0 ≤ R.locals := by omega
  unfold fJ6_bitCount_0f7a4 at hf
  intro H locs ls hS hl
  refine lv_iload_n hx hb dJ6_bitCount_0f7a4_0 rfl (lv_at hl 0 rfl) ?_
  refine lv_iload_n hx hb dJ6_bitCount_0f7a4_1 rfl (lv_at hl 0 rfl) ?_
  refine lv_iconst (v := 1) hx hb dJ6_bitCount_0f7a4_2 (by decide) ?_
  refine lv_iushr (v := (uShr x0 1)) hx hb dJ6_bitCount_0f7a4_3 rfl ?_
  refine lv_ldcw (v := 1431655765) hx hb X.2.2.2.1 (X.2.2.1 _ (inBi 1100 (by decide +kernel))) dJ6_bitCount_0f7a4_4 ?_
  refine lv_iand hx hb dJ6_bitCount_0f7a4_7 ?_
  refine lv_isub hx hb dJ6_bitCount_0f7a4_8 ?_
  refine lv_topi (fun x0_1 e1 => ?_)
  have hf := lt1_n e1 hf
  refine lv_istore_n (lv' := [(0, .int x0_1)]) hx hb dJ6_bitCount_0f7a4_9 rfl hl (by decide) rfl (fun ls hl => ?_)
  refine lv_iload_n hx hb dJ6_bitCount_0f7a4_10 rfl (lv_at hl 0 rfl) ?_
  refine lv_ldcw (v := 858993459) hx hb X.2.2.2.1 (X.2.2.1 _ (inBi 1101 (by decide +kernel))) dJ6_bitCount_0f7a4_11 ?_
  refine lv_iand hx hb dJ6_bitCount_0f7a4_14 ?_
  refine lv_iload_n hx hb dJ6_bitCount_0f7a4_15 rfl (lv_at hl 0 rfl) ?_
  refine lv_iconst (v := 2) hx hb dJ6_bitCount_0f7a4_16 (by decide) ?_
  refine lv_iushr (v := (uShr x0_1 2)) hx hb dJ6_bitCount_0f7a4_17 rfl ?_
  refine lv_ldcw (v := 858993459) hx hb X.2.2.2.1 (X.2.2.1 _ (inBi 1101 (by decide +kernel))) dJ6_bitCount_0f7a4_18 ?_
  refine lv_iand hx hb dJ6_bitCount_0f7a4_21 ?_
  refine lv_iadd hx hb dJ6_bitCount_0f7a4_22 ?_
  refine lv_topi (fun x0_2 e1 => ?_)
  have hf := lt1_n e1 hf
  refine lv_istore_n (lv' := [(0, .int x0_2)]) hx hb dJ6_bitCount_0f7a4_23 rfl hl (by decide) rfl (fun ls hl => ?_)
  refine lv_iload_n hx hb dJ6_bitCount_0f7a4_24 rfl (lv_at hl 0 rfl) ?_
  refine lv_iload_n hx hb dJ6_bitCount_0f7a4_25 rfl (lv_at hl 0 rfl) ?_
  refine lv_iconst (v := 4) hx hb dJ6_bitCount_0f7a4_26 (by decide) ?_
  refine lv_iushr (v := (uShr x0_2 4)) hx hb dJ6_bitCount_0f7a4_27 rfl ?_
  refine lv_iadd hx hb dJ6_bitCount_0f7a4_28 ?_
  refine lv_ldcw (v := 252645135) hx hb X.2.2.2.1 (X.2.2.1 _ (inBi 1102 (by decide +kernel))) dJ6_bitCount_0f7a4_29 ?_
  refine lv_iand hx hb dJ6_bitCount_0f7a4_32 ?_
  refine lv_topi (fun x0_3 e1 => ?_)
  have hf := lt1_n e1 hf
  refine lv_istore_n (lv' := [(0, .int x0_3)]) hx hb dJ6_bitCount_0f7a4_33 rfl hl (by decide) rfl (fun ls hl => ?_)
  refine lv_iload_n hx hb dJ6_bitCount_0f7a4_34 rfl (lv_at hl 0 rfl) ?_
  refine lv_iload_n hx hb dJ6_bitCount_0f7a4_35 rfl (lv_at hl 0 rfl) ?_
  refine lv_bipush (v := 8) hx hb dJ6_bitCount_0f7a4_36 (by decide) ?_
  refine lv_iushr (v := (uShr x0_3 8)) hx hb dJ6_bitCount_0f7a4_38 rfl ?_
  refine lv_iadd hx hb dJ6_bitCount_0f7a4_39 ?_
  refine lv_topi (fun x0_4 e1 => ?_)
  have hf := lt1_n e1 hf
  refine lv_istore_n (lv' := [(0, .int x0_4)]) hx hb dJ6_bitCount_0f7a4_40 rfl hl (by decide) rfl (fun ls hl => ?_)
  refine lv_iload_n hx hb dJ6_bitCount_0f7a4_41 rfl (lv_at hl 0 rfl) ?_
  refine lv_iload_n hx hb dJ6_bitCount_0f7a4_42 rfl (lv_at hl 0 rfl) ?_
  refine lv_bipush (v := 16) hx hb dJ6_bitCount_0f7a4_43 (by decide) ?_
  refine lv_iushr (v := (uShr x0_4 16)) hx hb dJ6_bitCount_0f7a4_45 rfl ?_
  refine lv_iadd hx hb dJ6_bitCount_0f7a4_46 ?_
  refine lv_topi (fun x0_5 e1 => ?_)
  have hf := lt1_n e1 hf
  refine lv_istore_n (lv' := [(0, .int x0_5)]) hx hb dJ6_bitCount_0f7a4_47 rfl hl (by decide) rfl (fun ls hl => ?_)
  refine lv_iload_n hx hb dJ6_bitCount_0f7a4_48 rfl (lv_at hl 0 rfl) ?_
  refine lv_bipush (v := 63) hx hb dJ6_bitCount_0f7a4_49 (by decide) ?_
  refine lv_iand hx hb dJ6_bitCount_0f7a4_51 ?_
  cases hf
  exact hret _ _ _ _ rfl dJ6_bitCount_0f7a4_52 hS
set_option maxRecDepth 100000 in
theorem cJ6_bitCount_0f7a4_ok {l : Launch} {E : Ev} {x0 : Int32} {mm : Mem} {r : Int32} (hf : fJ6_bitCount_0f7a4 x0 = some r) : CtI l yJ6_bitCount_0f7a4 cJ6_bitCount_0f7a4 1 (some .int) (0) (0) E [.int x0] mm r mm := by
  refine Met.ofW (cc := cJ6_bitCount_0f7a4) (maxL := 1) (ret := (some .int)) (by decide) rfl ?_
  intro p e s m args below meth c s₁ B hml hv
  obtain ⟨rfl, X, hS, hr, hlocks⟩ := am_in B hv
  refine am_entry (Nat.le_of_ble_eq_true rfl) (fun ls hl => ?_)
  exact wJ6_bitCount_0f7a4 X hml ⟨Nat.le_refl _, Nat.le_refl _⟩ hf (fun pc H locs ls hn hd hS => am_ri X hS hr hn hd hlocks) _ _ ls hS hl

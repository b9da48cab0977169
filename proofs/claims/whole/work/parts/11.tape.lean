theorem dX4_becomePlain_0 : decode cX4_becomePlain 0 = .ok (.aload_n 0, 1) := by decide +kernel
theorem dX4_becomePlain_1 : decode cX4_becomePlain 1 = .ok (.getfield 9, 3) := by decide +kernel
theorem dX4_becomePlain_4 : decode cX4_becomePlain 4 = .ok (.iconst 0, 1) := by decide +kernel
theorem dX4_becomePlain_5 : decode cX4_becomePlain 5 = .ok (.sipush 1000, 3) := by decide +kernel
theorem dX4_becomePlain_8 : decode cX4_becomePlain 8 = .ok (.iastore, 1) := by decide +kernel
theorem dX4_becomePlain_9 : decode cX4_becomePlain 9 = .ok (.aload_n 0, 1) := by decide +kernel
theorem dX4_becomePlain_10 : decode cX4_becomePlain 10 = .ok (.getfield 9, 3) := by decide +kernel
theorem dX4_becomePlain_13 : decode cX4_becomePlain 13 = .ok (.iconst 1, 1) := by decide +kernel
theorem dX4_becomePlain_14 : decode cX4_becomePlain 14 = .ok (.iconst 1, 1) := by decide +kernel
theorem dX4_becomePlain_15 : decode cX4_becomePlain 15 = .ok (.iastore, 1) := by decide +kernel
theorem dX4_becomePlain_16 : decode cX4_becomePlain 16 = .ok (.aload_n 0, 1) := by decide +kernel
theorem dX4_becomePlain_17 : decode cX4_becomePlain 17 = .ok (.getfield 9, 3) := by decide +kernel
theorem dX4_becomePlain_20 : decode cX4_becomePlain 20 = .ok (.iconst 2, 1) := by decide +kernel
theorem dX4_becomePlain_21 : decode cX4_becomePlain 21 = .ok (.sipush 1100, 3) := by decide +kernel
theorem dX4_becomePlain_24 : decode cX4_becomePlain 24 = .ok (.iastore, 1) := by decide +kernel
theorem dX4_becomePlain_25 : decode cX4_becomePlain 25 = .ok (.aload_n 0, 1) := by decide +kernel
theorem dX4_becomePlain_26 : decode cX4_becomePlain 26 = .ok (.getfield 9, 3) := by decide +kernel
theorem dX4_becomePlain_29 : decode cX4_becomePlain 29 = .ok (.iconst 3, 1) := by decide +kernel
theorem dX4_becomePlain_30 : decode cX4_becomePlain 30 = .ok (.sipush 1002, 3) := by decide +kernel
theorem dX4_becomePlain_33 : decode cX4_becomePlain 33 = .ok (.iastore, 1) := by decide +kernel
theorem dX4_becomePlain_34 : decode cX4_becomePlain 34 = .ok (.aload_n 0, 1) := by decide +kernel
theorem dX4_becomePlain_35 : decode cX4_becomePlain 35 = .ok (.getfield 9, 3) := by decide +kernel
theorem dX4_becomePlain_38 : decode cX4_becomePlain 38 = .ok (.iconst 4, 1) := by decide +kernel
theorem dX4_becomePlain_39 : decode cX4_becomePlain 39 = .ok (.sipush 1102, 3) := by decide +kernel
theorem dX4_becomePlain_42 : decode cX4_becomePlain 42 = .ok (.iastore, 1) := by decide +kernel
theorem dX4_becomePlain_43 : decode cX4_becomePlain 43 = .ok (.aload_n 0, 1) := by decide +kernel
theorem dX4_becomePlain_44 : decode cX4_becomePlain 44 = .ok (.iconst 5, 1) := by decide +kernel
theorem dX4_becomePlain_45 : decode cX4_becomePlain 45 = .ok (.putfield 21, 3) := by decide +kernel
theorem dX4_becomePlain_48 : decode cX4_becomePlain 48 = .ok (.return_, 1) := by decide +kernel
theorem dX8_ended_0 : decode cX8_ended 0 = .ok (.aload_n 0, 1) := by decide +kernel
theorem dX8_ended_1 : decode cX8_ended 1 = .ok (.invokevirtual 31, 3) := by decide +kernel
theorem dX8_ended_4 : decode cX8_ended 4 = .ok (.aload_n 0, 1) := by decide +kernel
theorem dX8_ended_5 : decode cX8_ended 5 = .ok (.getfield 22, 3) := by decide +kernel
theorem dX8_ended_8 : decode cX8_ended 8 = .ok (.if_icmp .lt 7, 3) := by decide +kernel
theorem dX8_ended_11 : decode cX8_ended 11 = .ok (.iconst 1, 1) := by decide +kernel
theorem dX8_ended_12 : decode cX8_ended 12 = .ok (.goto 4, 3) := by decide +kernel
theorem dX8_ended_15 : decode cX8_ended 15 = .ok (.iconst 0, 1) := by decide +kernel
theorem dX8_ended_16 : decode cX8_ended 16 = .ok (.ireturn, 1) := by decide +kernel
theorem dX8_isWhole_0 : decode cX8_isWhole 0 = .ok (.aload_n 0, 1) := by decide +kernel
theorem dX8_isWhole_1 : decode cX8_isWhole 1 = .ok (.getfield 28, 3) := by decide +kernel
theorem dX8_isWhole_4 : decode cX8_isWhole 4 = .ok (.ifCond .ne 7, 3) := by decide +kernel
theorem dX8_isWhole_7 : decode cX8_isWhole 7 = .ok (.iconst 1, 1) := by decide +kernel
theorem dX8_isWhole_8 : decode cX8_isWhole 8 = .ok (.goto 4, 3) := by decide +kernel
theorem dX8_isWhole_11 : decode cX8_isWhole 11 = .ok (.iconst 0, 1) := by decide +kernel
theorem dX8_isWhole_12 : decode cX8_isWhole 12 = .ok (.ireturn, 1) := by decide +kernel
theorem dX1_copyFrom_0 : decode cX1_copyFrom 0 = .ok (.aload_n 1, 1) := by decide +kernel
theorem dX1_copyFrom_1 : decode cX1_copyFrom 1 = .ok (.getfield 9, 3) := by decide +kernel
theorem dX1_copyFrom_4 : decode cX1_copyFrom 4 = .ok (.iconst 0, 1) := by decide +kernel
theorem dX1_copyFrom_5 : decode cX1_copyFrom 5 = .ok (.aload_n 0, 1) := by decide +kernel
theorem dX1_copyFrom_6 : decode cX1_copyFrom 6 = .ok (.getfield 9, 3) := by decide +kernel
theorem dX1_copyFrom_9 : decode cX1_copyFrom 9 = .ok (.iconst 0, 1) := by decide +kernel
theorem dX1_copyFrom_10 : decode cX1_copyFrom 10 = .ok (.bipush 42, 2) := by decide +kernel
theorem dX1_copyFrom_12 : decode cX1_copyFrom 12 = .ok (.invokestatic 25, 3) := by decide +kernel
theorem dX1_copyFrom_15 : decode cX1_copyFrom 15 = .ok (.aload_n 1, 1) := by decide +kernel
theorem dX1_copyFrom_16 : decode cX1_copyFrom 16 = .ok (.getfield 15, 3) := by decide +kernel
theorem dX1_copyFrom_19 : decode cX1_copyFrom 19 = .ok (.iconst 0, 1) := by decide +kernel
theorem dX1_copyFrom_20 : decode cX1_copyFrom 20 = .ok (.aload_n 0, 1) := by decide +kernel
theorem dX1_copyFrom_21 : decode cX1_copyFrom 21 = .ok (.getfield 15, 3) := by decide +kernel
theorem dX1_copyFrom_24 : decode cX1_copyFrom 24 = .ok (.iconst 0, 1) := by decide +kernel
theorem dX1_copyFrom_25 : decode cX1_copyFrom 25 = .ok (.bipush 8, 2) := by decide +kernel
theorem dX1_copyFrom_27 : decode cX1_copyFrom 27 = .ok (.invokestatic 25, 3) := by decide +kernel
theorem dX1_copyFrom_30 : decode cX1_copyFrom 30 = .ok (.aload_n 1, 1) := by decide +kernel
theorem dX1_copyFrom_31 : decode cX1_copyFrom 31 = .ok (.getfield 18, 3) := by decide +kernel
theorem dX1_copyFrom_34 : decode cX1_copyFrom 34 = .ok (.iconst 0, 1) := by decide +kernel
theorem dX1_copyFrom_35 : decode cX1_copyFrom 35 = .ok (.aload_n 0, 1) := by decide +kernel
theorem dX1_copyFrom_36 : decode cX1_copyFrom 36 = .ok (.getfield 18, 3) := by decide +kernel
theorem dX1_copyFrom_39 : decode cX1_copyFrom 39 = .ok (.iconst 0, 1) := by decide +kernel
theorem dX1_copyFrom_40 : decode cX1_copyFrom 40 = .ok (.bipush 8, 2) := by decide +kernel
theorem dX1_copyFrom_42 : decode cX1_copyFrom 42 = .ok (.invokestatic 25, 3) := by decide +kernel
theorem dX1_copyFrom_45 : decode cX1_copyFrom 45 = .ok (.aload_n 0, 1) := by decide +kernel
theorem dX1_copyFrom_46 : decode cX1_copyFrom 46 = .ok (.aload_n 1, 1) := by decide +kernel
theorem dX1_copyFrom_47 : decode cX1_copyFrom 47 = .ok (.getfield 31, 3) := by decide +kernel
theorem dX1_copyFrom_50 : decode cX1_copyFrom 50 = .ok (.putfield 31, 3) := by decide +kernel
theorem dX1_copyFrom_53 : decode cX1_copyFrom 53 = .ok (.aload_n 0, 1) := by decide +kernel
theorem dX1_copyFrom_54 : decode cX1_copyFrom 54 = .ok (.aload_n 1, 1) := by decide +kernel
theorem dX1_copyFrom_55 : decode cX1_copyFrom 55 = .ok (.getfield 34, 3) := by decide +kernel
theorem dX1_copyFrom_58 : decode cX1_copyFrom 58 = .ok (.putfield 34, 3) := by decide +kernel
theorem dX1_copyFrom_61 : decode cX1_copyFrom 61 = .ok (.aload_n 0, 1) := by decide +kernel
theorem dX1_copyFrom_62 : decode cX1_copyFrom 62 = .ok (.aload_n 1, 1) := by decide +kernel
theorem dX1_copyFrom_63 : decode cX1_copyFrom 63 = .ok (.getfield 21, 3) := by decide +kernel
theorem dX1_copyFrom_66 : decode cX1_copyFrom 66 = .ok (.putfield 21, 3) := by decide +kernel
theorem dX1_copyFrom_69 : decode cX1_copyFrom 69 = .ok (.return_, 1) := by decide +kernel
theorem dX0_readLine_0 : decode cX0_readLine 0 = .ok (.aload_n 1, 1) := by decide +kernel
theorem dX0_readLine_1 : decode cX0_readLine 1 = .ok (.invokevirtual 41, 3) := by decide +kernel
theorem dX0_readLine_4 : decode cX0_readLine 4 = .ok (.istore_n 3, 1) := by decide +kernel
theorem dX0_readLine_5 : decode cX0_readLine 5 = .ok (.aload_n 1, 1) := by decide +kernel
theorem dX0_readLine_6 : decode cX0_readLine 6 = .ok (.iconst 0, 1) := by decide +kernel
theorem dX0_readLine_7 : decode cX0_readLine 7 = .ok (.iload_n 2, 1) := by decide +kernel
theorem dX0_readLine_8 : decode cX0_readLine 8 = .ok (.iconst 1, 1) := by decide +kernel
theorem dX0_readLine_9 : decode cX0_readLine 9 = .ok (.isub, 1) := by decide +kernel
theorem dX0_readLine_10 : decode cX0_readLine 10 = .ok (.invokevirtual 45, 3) := by decide +kernel
theorem dX0_readLine_13 : decode cX0_readLine 13 = .ok (.istore 4, 2) := by decide +kernel
theorem dX0_readLine_15 : decode cX0_readLine 15 = .ok (.aload_n 0, 1) := by decide +kernel
theorem dX0_readLine_16 : decode cX0_readLine 16 = .ok (.getfield 24, 3) := by decide +kernel
theorem dX0_readLine_19 : decode cX0_readLine 19 = .ok (.bipush 8, 2) := by decide +kernel
theorem dX0_readLine_21 : decode cX0_readLine 21 = .ok (.if_icmp .lt 11, 3) := by decide +kernel
theorem dX0_readLine_24 : decode cX0_readLine 24 = .ok (.aload_n 1, 1) := by decide +kernel
theorem dX0_readLine_25 : decode cX0_readLine 25 = .ok (.iconst 3, 1) := by decide +kernel
theorem dX0_readLine_26 : decode cX0_readLine 26 = .ok (.iload_n 3, 1) := by decide +kernel
theorem dX0_readLine_27 : decode cX0_readLine 27 = .ok (.invokevirtual 49, 3) := by decide +kernel
theorem dX0_readLine_30 : decode cX0_readLine 30 = .ok (.pop, 1) := by decide +kernel
theorem dX0_readLine_31 : decode cX0_readLine 31 = .ok (.return_, 1) := by decide +kernel
theorem dX0_readLine_32 : decode cX0_readLine 32 = .ok (.aload_n 0, 1) := by decide +kernel
theorem dX0_readLine_33 : decode cX0_readLine 33 = .ok (.getfield 9, 3) := by decide +kernel
theorem dX0_readLine_36 : decode cX0_readLine 36 = .ok (.aload_n 0, 1) := by decide +kernel
theorem dX0_readLine_37 : decode cX0_readLine 37 = .ok (.getfield 24, 3) := by decide +kernel
theorem dX0_readLine_40 : decode cX0_readLine 40 = .ok (.iload 4, 2) := by decide +kernel
theorem dX0_readLine_42 : decode cX0_readLine 42 = .ok (.iastore, 1) := by decide +kernel
theorem dX0_readLine_43 : decode cX0_readLine 43 = .ok (.aload_n 0, 1) := by decide +kernel
theorem dX0_readLine_44 : decode cX0_readLine 44 = .ok (.getfield 15, 3) := by decide +kernel
theorem dX0_readLine_47 : decode cX0_readLine 47 = .ok (.aload_n 0, 1) := by decide +kernel
theorem dX0_readLine_48 : decode cX0_readLine 48 = .ok (.getfield 24, 3) := by decide +kernel
theorem dX0_readLine_51 : decode cX0_readLine 51 = .ok (.aload_n 1, 1) := by decide +kernel
theorem dX0_readLine_52 : decode cX0_readLine 52 = .ok (.iconst 0, 1) := by decide +kernel
theorem dX0_readLine_53 : decode cX0_readLine 53 = .ok (.sipush 400, 3) := by decide +kernel
theorem dX0_readLine_56 : decode cX0_readLine 56 = .ok (.invokevirtual 45, 3) := by decide +kernel
theorem dX0_readLine_59 : decode cX0_readLine 59 = .ok (.iastore, 1) := by decide +kernel
theorem dX0_readLine_60 : decode cX0_readLine 60 = .ok (.aload_n 0, 1) := by decide +kernel
theorem dX0_readLine_61 : decode cX0_readLine 61 = .ok (.dup, 1) := by decide +kernel
theorem dX0_readLine_62 : decode cX0_readLine 62 = .ok (.getfield 24, 3) := by decide +kernel
theorem dX0_readLine_65 : decode cX0_readLine 65 = .ok (.iconst 1, 1) := by decide +kernel
theorem dX0_readLine_66 : decode cX0_readLine 66 = .ok (.iadd, 1) := by decide +kernel
theorem dX0_readLine_67 : decode cX0_readLine 67 = .ok (.putfield 24, 3) := by decide +kernel
theorem dX0_readLine_70 : decode cX0_readLine 70 = .ok (.aload_n 1, 1) := by decide +kernel
theorem dX0_readLine_71 : decode cX0_readLine 71 = .ok (.bipush 59, 2) := by decide +kernel
theorem dX0_readLine_73 : decode cX0_readLine 73 = .ok (.invokevirtual 53, 3) := by decide +kernel
theorem dX0_readLine_76 : decode cX0_readLine 76 = .ok (.pop, 1) := by decide +kernel
theorem dX0_readLine_77 : decode cX0_readLine 77 = .ok (.return_, 1) := by decide +kernel
theorem dX8_fail_0 : decode cX8_fail 0 = .ok (.aload_n 0, 1) := by decide +kernel
theorem dX8_fail_1 : decode cX8_fail 1 = .ok (.getfield 28, 3) := by decide +kernel
theorem dX8_fail_4 : decode cX8_fail 4 = .ok (.ifCond .ne 13, 3) := by decide +kernel
theorem dX8_fail_7 : decode cX8_fail 7 = .ok (.aload_n 0, 1) := by decide +kernel
theorem dX8_fail_8 : decode cX8_fail 8 = .ok (.iload_n 1, 1) := by decide +kernel
theorem dX8_fail_9 : decode cX8_fail 9 = .ok (.putfield 28, 3) := by decide +kernel
theorem dX8_fail_12 : decode cX8_fail 12 = .ok (.aload_n 0, 1) := by decide +kernel
theorem dX8_fail_13 : decode cX8_fail 13 = .ok (.iload_n 2, 1) := by decide +kernel
theorem dX8_fail_14 : decode cX8_fail 14 = .ok (.putfield 15, 3) := by decide +kernel
theorem dX8_fail_17 : decode cX8_fail 17 = .ok (.iconst 0, 1) := by decide +kernel
theorem dX8_fail_18 : decode cX8_fail 18 = .ok (.ireturn, 1) := by decide +kernel
theorem dX8_open_0 : decode cX8_open 0 = .ok (.aload_n 0, 1) := by decide +kernel
theorem dX8_open_1 : decode cX8_open 1 = .ok (.iload_n 1, 1) := by decide +kernel
theorem dX8_open_2 : decode cX8_open 2 = .ok (.putfield 22, 3) := by decide +kernel
theorem dX8_open_5 : decode cX8_open 5 = .ok (.aload_n 0, 1) := by decide +kernel
theorem dX8_open_6 : decode cX8_open 6 = .ok (.iconst 0, 1) := by decide +kernel
theorem dX8_open_7 : decode cX8_open 7 = .ok (.putfield 25, 3) := by decide +kernel
theorem dX8_open_10 : decode cX8_open 10 = .ok (.aload_n 0, 1) := by decide +kernel
theorem dX8_open_11 : decode cX8_open 11 = .ok (.iconst 0, 1) := by decide +kernel
theorem dX8_open_12 : decode cX8_open 12 = .ok (.putfield 19, 3) := by decide +kernel
theorem dX8_open_15 : decode cX8_open 15 = .ok (.aload_n 0, 1) := by decide +kernel
theorem dX8_open_16 : decode cX8_open 16 = .ok (.iconst 0, 1) := by decide +kernel
theorem dX8_open_17 : decode cX8_open 17 = .ok (.putfield 28, 3) := by decide +kernel
theorem dX8_open_20 : decode cX8_open 20 = .ok (.aload_n 0, 1) := by decide +kernel
theorem dX8_open_21 : decode cX8_open 21 = .ok (.iconst (-1), 1) := by decide +kernel
theorem dX8_open_22 : decode cX8_open 22 = .ok (.putfield 15, 3) := by decide +kernel
theorem dX8_open_25 : decode cX8_open 25 = .ok (.return_, 1) := by decide +kernel
theorem dX8_wants_0 : decode cX8_wants 0 = .ok (.aload_n 0, 1) := by decide +kernel
theorem dX8_wants_1 : decode cX8_wants 1 = .ok (.iload_n 1, 1) := by decide +kernel
theorem dX8_wants_2 : decode cX8_wants 2 = .ok (.invokevirtual 39, 3) := by decide +kernel
theorem dX8_wants_5 : decode cX8_wants 5 = .ok (.ifCond .ne 15, 3) := by decide +kernel
theorem dX8_wants_8 : decode cX8_wants 8 = .ok (.aload_n 0, 1) := by decide +kernel
theorem dX8_wants_9 : decode cX8_wants 9 = .ok (.iconst 1, 1) := by decide +kernel
theorem dX8_wants_10 : decode cX8_wants 10 = .ok (.aload_n 0, 1) := by decide +kernel
theorem dX8_wants_11 : decode cX8_wants 11 = .ok (.getfield 25, 3) := by decide +kernel
theorem dX8_wants_14 : decode cX8_wants 14 = .ok (.invokevirtual 43, 3) := by decide +kernel
theorem dX8_wants_17 : decode cX8_wants 17 = .ok (.ifCond .eq 7, 3) := by decide +kernel
theorem dX8_wants_20 : decode cX8_wants 20 = .ok (.iconst 1, 1) := by decide +kernel
theorem dX8_wants_21 : decode cX8_wants 21 = .ok (.goto 4, 3) := by decide +kernel
theorem dX8_wants_24 : decode cX8_wants 24 = .ok (.iconst 0, 1) := by decide +kernel
theorem dX8_wants_25 : decode cX8_wants 25 = .ok (.ireturn, 1) := by decide +kernel
theorem dX1_readClause_0 : decode cX1_readClause 0 = .ok (.aload_n 1, 1) := by decide +kernel
theorem dX1_readClause_1 : decode cX1_readClause 1 = .ok (.invokevirtual 56, 3) := by decide +kernel
theorem dX1_readClause_4 : decode cX1_readClause 4 = .ok (.istore_n 3, 1) := by decide +kernel
theorem dX1_readClause_5 : decode cX1_readClause 5 = .ok (.aload_n 1, 1) := by decide +kernel
theorem dX1_readClause_6 : decode cX1_readClause 6 = .ok (.ldc 60, 2) := by decide +kernel
theorem dX1_readClause_8 : decode cX1_readClause 8 = .ok (.invokevirtual 62, 3) := by decide +kernel
theorem dX1_readClause_11 : decode cX1_readClause 11 = .ok (.istore 4, 2) := by decide +kernel
theorem dX1_readClause_13 : decode cX1_readClause 13 = .ok (.iload 4, 2) := by decide +kernel
theorem dX1_readClause_15 : decode cX1_readClause 15 = .ok (.iconst (-1), 1) := by decide +kernel
theorem dX1_readClause_16 : decode cX1_readClause 16 = .ok (.if_icmp .ne 4, 3) := by decide +kernel
theorem dX1_readClause_19 : decode cX1_readClause 19 = .ok (.return_, 1) := by decide +kernel
theorem dX1_readClause_20 : decode cX1_readClause 20 = .ok (.iload_n 2, 1) := by decide +kernel
theorem dX1_readClause_21 : decode cX1_readClause 21 = .ok (.bipush 60, 2) := by decide +kernel
theorem dX1_readClause_23 : decode cX1_readClause 23 = .ok (.if_icmp .ge 32, 3) := by decide +kernel
theorem dX1_readClause_26 : decode cX1_readClause 26 = .ok (.iload 4, 2) := by decide +kernel
theorem dX1_readClause_28 : decode cX1_readClause 28 = .ok (.ifCond .ne 12, 3) := by decide +kernel
theorem dX1_readClause_31 : decode cX1_readClause 31 = .ok (.aload_n 0, 1) := by decide +kernel
theorem dX1_readClause_32 : decode cX1_readClause 32 = .ok (.getfield 31, 3) := by decide +kernel
theorem dX1_readClause_35 : decode cX1_readClause 35 = .ok (.bipush 6, 2) := by decide +kernel
theorem dX1_readClause_37 : decode cX1_readClause 37 = .ok (.if_icmp .ge 18, 3) := by decide +kernel
theorem dX1_readClause_40 : decode cX1_readClause 40 = .ok (.iload 4, 2) := by decide +kernel
theorem dX1_readClause_42 : decode cX1_readClause 42 = .ok (.iconst 1, 1) := by decide +kernel
theorem dX1_readClause_43 : decode cX1_readClause 43 = .ok (.if_icmp .ne 20, 3) := by decide +kernel
theorem dX1_readClause_46 : decode cX1_readClause 46 = .ok (.aload_n 0, 1) := by decide +kernel
theorem dX1_readClause_47 : decode cX1_readClause 47 = .ok (.getfield 34, 3) := by decide +kernel
theorem dX1_readClause_50 : decode cX1_readClause 50 = .ok (.bipush 8, 2) := by decide +kernel
theorem dX1_readClause_52 : decode cX1_readClause 52 = .ok (.if_icmp .lt 11, 3) := by decide +kernel
theorem dX1_readClause_55 : decode cX1_readClause 55 = .ok (.aload_n 1, 1) := by decide +kernel
theorem dX1_readClause_56 : decode cX1_readClause 56 = .ok (.iconst 3, 1) := by decide +kernel
theorem dX1_readClause_57 : decode cX1_readClause 57 = .ok (.iload_n 3, 1) := by decide +kernel
theorem dX1_readClause_58 : decode cX1_readClause 58 = .ok (.invokevirtual 66, 3) := by decide +kernel
theorem dX1_readClause_61 : decode cX1_readClause 61 = .ok (.pop, 1) := by decide +kernel
theorem dX1_readClause_62 : decode cX1_readClause 62 = .ok (.return_, 1) := by decide +kernel
theorem dX1_readClause_63 : decode cX1_readClause 63 = .ok (.iload 4, 2) := by decide +kernel
theorem dX1_readClause_65 : decode cX1_readClause 65 = .ok (.ifCond .ne 11, 3) := by decide +kernel
theorem dX1_readClause_68 : decode cX1_readClause 68 = .ok (.aload_n 0, 1) := by decide +kernel
theorem dX1_readClause_69 : decode cX1_readClause 69 = .ok (.aload_n 1, 1) := by decide +kernel
theorem dX1_readClause_70 : decode cX1_readClause 70 = .ok (.invokevirtual 70, 3) := by decide +kernel
theorem dX1_readClause_73 : decode cX1_readClause 73 = .ok (.goto 65, 3) := by decide +kernel
theorem dX1_readClause_76 : decode cX1_readClause 76 = .ok (.iload 4, 2) := by decide +kernel
theorem dX1_readClause_78 : decode cX1_readClause 78 = .ok (.iconst 1, 1) := by decide +kernel
theorem dX1_readClause_79 : decode cX1_readClause 79 = .ok (.if_icmp .ne 47, 3) := by decide +kernel
theorem dX1_readClause_82 : decode cX1_readClause 82 = .ok (.aload_n 0, 1) := by decide +kernel
theorem dX1_readClause_83 : decode cX1_readClause 83 = .ok (.getfield 15, 3) := by decide +kernel
theorem dX1_readClause_86 : decode cX1_readClause 86 = .ok (.aload_n 0, 1) := by decide +kernel
theorem dX1_readClause_87 : decode cX1_readClause 87 = .ok (.getfield 34, 3) := by decide +kernel
theorem dX1_readClause_90 : decode cX1_readClause 90 = .ok (.aload_n 1, 1) := by decide +kernel
theorem dX1_readClause_91 : decode cX1_readClause 91 = .ok (.iconst 1, 1) := by decide +kernel
theorem dX1_readClause_92 : decode cX1_readClause 92 = .ok (.bipush 9, 2) := by decide +kernel
theorem dX1_readClause_94 : decode cX1_readClause 94 = .ok (.invokevirtual 74, 3) := by decide +kernel
theorem dX1_readClause_97 : decode cX1_readClause 97 = .ok (.iastore, 1) := by decide +kernel
theorem dX1_readClause_98 : decode cX1_readClause 98 = .ok (.aload_n 0, 1) := by decide +kernel
theorem dX1_readClause_99 : decode cX1_readClause 99 = .ok (.getfield 18, 3) := by decide +kernel
theorem dX1_readClause_102 : decode cX1_readClause 102 = .ok (.aload_n 0, 1) := by decide +kernel
theorem dX1_readClause_103 : decode cX1_readClause 103 = .ok (.getfield 34, 3) := by decide +kernel
theorem dX1_readClause_106 : decode cX1_readClause 106 = .ok (.aload_n 1, 1) := by decide +kernel
theorem dX1_readClause_107 : decode cX1_readClause 107 = .ok (.iconst 0, 1) := by decide +kernel
theorem dX1_readClause_108 : decode cX1_readClause 108 = .ok (.iconst 1, 1) := by decide +kernel
theorem dX1_readClause_109 : decode cX1_readClause 109 = .ok (.invokevirtual 74, 3) := by decide +kernel
theorem dX1_readClause_112 : decode cX1_readClause 112 = .ok (.iastore, 1) := by decide +kernel
theorem dX1_readClause_113 : decode cX1_readClause 113 = .ok (.aload_n 0, 1) := by decide +kernel
theorem dX1_readClause_114 : decode cX1_readClause 114 = .ok (.dup, 1) := by decide +kernel
theorem dX1_readClause_115 : decode cX1_readClause 115 = .ok (.getfield 34, 3) := by decide +kernel
theorem dX1_readClause_118 : decode cX1_readClause 118 = .ok (.iconst 1, 1) := by decide +kernel
theorem dX1_readClause_119 : decode cX1_readClause 119 = .ok (.iadd, 1) := by decide +kernel
theorem dX1_readClause_120 : decode cX1_readClause 120 = .ok (.putfield 34, 3) := by decide +kernel
theorem dX1_readClause_123 : decode cX1_readClause 123 = .ok (.goto 15, 3) := by decide +kernel
theorem dX1_readClause_126 : decode cX1_readClause 126 = .ok (.aload_n 0, 1) := by decide +kernel
theorem dX1_readClause_127 : decode cX1_readClause 127 = .ok (.aload_n 1, 1) := by decide +kernel
theorem dX1_readClause_128 : decode cX1_readClause 128 = .ok (.bipush 10, 2) := by decide +kernel
theorem dX1_readClause_130 : decode cX1_readClause 130 = .ok (.bipush 99, 2) := by decide +kernel
theorem dX1_readClause_132 : decode cX1_readClause 132 = .ok (.invokevirtual 74, 3) := by decide +kernel
theorem dX1_readClause_135 : decode cX1_readClause 135 = .ok (.putfield 21, 3) := by decide +kernel
theorem dX1_readClause_138 : decode cX1_readClause 138 = .ok (.aload_n 1, 1) := by decide +kernel
theorem dX1_readClause_139 : decode cX1_readClause 139 = .ok (.bipush 59, 2) := by decide +kernel
theorem dX1_readClause_141 : decode cX1_readClause 141 = .ok (.invokevirtual 78, 3) := by decide +kernel
theorem dX1_readClause_144 : decode cX1_readClause 144 = .ok (.pop, 1) := by decide +kernel
theorem dX1_readClause_145 : decode cX1_readClause 145 = .ok (.return_, 1) := by decide +kernel
theorem dX4_copyFrom_0 : decode cX4_copyFrom 0 = .ok (.aload_n 1, 1) := by decide +kernel
theorem dX4_copyFrom_1 : decode cX4_copyFrom 1 = .ok (.getfield 9, 3) := by decide +kernel
theorem dX4_copyFrom_4 : decode cX4_copyFrom 4 = .ok (.iconst 0, 1) := by decide +kernel
theorem dX4_copyFrom_5 : decode cX4_copyFrom 5 = .ok (.aload_n 0, 1) := by decide +kernel
theorem dX4_copyFrom_6 : decode cX4_copyFrom 6 = .ok (.getfield 9, 3) := by decide +kernel
theorem dX4_copyFrom_9 : decode cX4_copyFrom 9 = .ok (.iconst 0, 1) := by decide +kernel
theorem dX4_copyFrom_10 : decode cX4_copyFrom 10 = .ok (.aload_n 0, 1) := by decide +kernel
theorem dX4_copyFrom_11 : decode cX4_copyFrom 11 = .ok (.getfield 9, 3) := by decide +kernel
theorem dX4_copyFrom_14 : decode cX4_copyFrom 14 = .ok (.arraylength, 1) := by decide +kernel
theorem dX4_copyFrom_15 : decode cX4_copyFrom 15 = .ok (.invokestatic 25, 3) := by decide +kernel
theorem dX4_copyFrom_18 : decode cX4_copyFrom 18 = .ok (.aload_n 0, 1) := by decide +kernel
theorem dX4_copyFrom_19 : decode cX4_copyFrom 19 = .ok (.aload_n 1, 1) := by decide +kernel
theorem dX4_copyFrom_20 : decode cX4_copyFrom 20 = .ok (.getfield 21, 3) := by decide +kernel
theorem dX4_copyFrom_23 : decode cX4_copyFrom 23 = .ok (.putfield 21, 3) := by decide +kernel
theorem dX4_copyFrom_26 : decode cX4_copyFrom 26 = .ok (.return_, 1) := by decide +kernel
theorem dX1_readFellow_0 : decode cX1_readFellow 0 = .ok (.iconst 0, 1) := by decide +kernel
theorem dX1_readFellow_1 : decode cX1_readFellow 1 = .ok (.istore_n 2, 1) := by decide +kernel
theorem dX1_readFellow_2 : decode cX1_readFellow 2 = .ok (.iload_n 2, 1) := by decide +kernel
theorem dX1_readFellow_3 : decode cX1_readFellow 3 = .ok (.bipush 7, 2) := by decide +kernel
theorem dX1_readFellow_5 : decode cX1_readFellow 5 = .ok (.if_icmp .ge 30, 3) := by decide +kernel
theorem dX1_readFellow_8 : decode cX1_readFellow 8 = .ok (.aload_n 0, 1) := by decide +kernel
theorem dX1_readFellow_9 : decode cX1_readFellow 9 = .ok (.getfield 9, 3) := by decide +kernel
theorem dX1_readFellow_12 : decode cX1_readFellow 12 = .ok (.aload_n 0, 1) := by decide +kernel
theorem dX1_readFellow_13 : decode cX1_readFellow 13 = .ok (.getfield 31, 3) := by decide +kernel
theorem dX1_readFellow_16 : decode cX1_readFellow 16 = .ok (.bipush 7, 2) := by decide +kernel
theorem dX1_readFellow_18 : decode cX1_readFellow 18 = .ok (.imul, 1) := by decide +kernel
theorem dX1_readFellow_19 : decode cX1_readFellow 19 = .ok (.iload_n 2, 1) := by decide +kernel
theorem dX1_readFellow_20 : decode cX1_readFellow 20 = .ok (.iadd, 1) := by decide +kernel
theorem dX1_readFellow_21 : decode cX1_readFellow 21 = .ok (.aload_n 1, 1) := by decide +kernel
theorem dX1_readFellow_22 : decode cX1_readFellow 22 = .ok (.iconst 0, 1) := by decide +kernel
theorem dX1_readFellow_23 : decode cX1_readFellow 23 = .ok (.bipush 40, 2) := by decide +kernel
theorem dX1_readFellow_25 : decode cX1_readFellow 25 = .ok (.invokevirtual 74, 3) := by decide +kernel
theorem dX1_readFellow_28 : decode cX1_readFellow 28 = .ok (.iastore, 1) := by decide +kernel
theorem dX1_readFellow_29 : decode cX1_readFellow 29 = .ok (.iinc 2 1, 3) := by decide +kernel
theorem dX1_readFellow_32 : decode cX1_readFellow 32 = .ok (.goto (-30), 3) := by decide +kernel
theorem dX1_readFellow_35 : decode cX1_readFellow 35 = .ok (.aload_n 0, 1) := by decide +kernel
theorem dX1_readFellow_36 : decode cX1_readFellow 36 = .ok (.dup, 1) := by decide +kernel
theorem dX1_readFellow_37 : decode cX1_readFellow 37 = .ok (.getfield 31, 3) := by decide +kernel
theorem dX1_readFellow_40 : decode cX1_readFellow 40 = .ok (.iconst 1, 1) := by decide +kernel
theorem dX1_readFellow_41 : decode cX1_readFellow 41 = .ok (.iadd, 1) := by decide +kernel
theorem dX1_readFellow_42 : decode cX1_readFellow 42 = .ok (.putfield 31, 3) := by decide +kernel
theorem dX1_readFellow_45 : decode cX1_readFellow 45 = .ok (.return_, 1) := by decide +kernel
theorem dX0_read_0 : decode cX0_read 0 = .ok (.aload_n 0, 1) := by decide +kernel
theorem dX0_read_1 : decode cX0_read 1 = .ok (.iconst 0, 1) := by decide +kernel
theorem dX0_read_2 : decode cX0_read 2 = .ok (.putfield 24, 3) := by decide +kernel
theorem dX0_read_5 : decode cX0_read 5 = .ok (.iconst 0, 1) := by decide +kernel
theorem dX0_read_6 : decode cX0_read 6 = .ok (.istore_n 3, 1) := by decide +kernel
theorem dX0_read_7 : decode cX0_read 7 = .ok (.iload_n 3, 1) := by decide +kernel
theorem dX0_read_8 : decode cX0_read 8 = .ok (.bipush 8, 2) := by decide +kernel
theorem dX0_read_10 : decode cX0_read 10 = .ok (.if_icmp .gt 31, 3) := by decide +kernel
theorem dX0_read_13 : decode cX0_read 13 = .ok (.aload_n 1, 1) := by decide +kernel
theorem dX0_read_14 : decode cX0_read 14 = .ok (.invokevirtual 28, 3) := by decide +kernel
theorem dX0_read_17 : decode cX0_read 17 = .ok (.ifCond .ne 24, 3) := by decide +kernel
theorem dX0_read_20 : decode cX0_read 20 = .ok (.aload_n 0, 1) := by decide +kernel
theorem dX0_read_21 : decode cX0_read 21 = .ok (.aload_n 1, 1) := by decide +kernel
theorem dX0_read_22 : decode cX0_read 22 = .ok (.iload_n 2, 1) := by decide +kernel
theorem dX0_read_23 : decode cX0_read 23 = .ok (.invokevirtual 34, 3) := by decide +kernel
theorem dX0_read_26 : decode cX0_read 26 = .ok (.aload_n 1, 1) := by decide +kernel
theorem dX0_read_27 : decode cX0_read 27 = .ok (.invokevirtual 38, 3) := by decide +kernel
theorem dX0_read_30 : decode cX0_read 30 = .ok (.ifCond .ne 5, 3) := by decide +kernel
theorem dX0_read_33 : decode cX0_read 33 = .ok (.iconst 0, 1) := by decide +kernel
theorem dX0_read_34 : decode cX0_read 34 = .ok (.ireturn, 1) := by decide +kernel
theorem dX0_read_35 : decode cX0_read 35 = .ok (.iinc 3 1, 3) := by decide +kernel
theorem dX0_read_38 : decode cX0_read 38 = .ok (.goto (-31), 3) := by decide +kernel
theorem dX0_read_41 : decode cX0_read 41 = .ok (.iconst 1, 1) := by decide +kernel
theorem dX0_read_42 : decode cX0_read 42 = .ok (.ireturn, 1) := by decide +kernel
theorem dX0_copyFrom_0 : decode cX0_copyFrom 0 = .ok (.aload_n 1, 1) := by decide +kernel
theorem dX0_copyFrom_1 : decode cX0_copyFrom 1 = .ok (.getfield 9, 3) := by decide +kernel
theorem dX0_copyFrom_4 : decode cX0_copyFrom 4 = .ok (.iconst 0, 1) := by decide +kernel
theorem dX0_copyFrom_5 : decode cX0_copyFrom 5 = .ok (.aload_n 0, 1) := by decide +kernel
theorem dX0_copyFrom_6 : decode cX0_copyFrom 6 = .ok (.getfield 9, 3) := by decide +kernel
theorem dX0_copyFrom_9 : decode cX0_copyFrom 9 = .ok (.iconst 0, 1) := by decide +kernel
theorem dX0_copyFrom_10 : decode cX0_copyFrom 10 = .ok (.bipush 8, 2) := by decide +kernel
theorem dX0_copyFrom_12 : decode cX0_copyFrom 12 = .ok (.invokestatic 18, 3) := by decide +kernel
theorem dX0_copyFrom_15 : decode cX0_copyFrom 15 = .ok (.aload_n 1, 1) := by decide +kernel
theorem dX0_copyFrom_16 : decode cX0_copyFrom 16 = .ok (.getfield 15, 3) := by decide +kernel
theorem dX0_copyFrom_19 : decode cX0_copyFrom 19 = .ok (.iconst 0, 1) := by decide +kernel
theorem dX0_copyFrom_20 : decode cX0_copyFrom 20 = .ok (.aload_n 0, 1) := by decide +kernel
theorem dX0_copyFrom_21 : decode cX0_copyFrom 21 = .ok (.getfield 15, 3) := by decide +kernel
theorem dX0_copyFrom_24 : decode cX0_copyFrom 24 = .ok (.iconst 0, 1) := by decide +kernel
theorem dX0_copyFrom_25 : decode cX0_copyFrom 25 = .ok (.bipush 8, 2) := by decide +kernel
theorem dX0_copyFrom_27 : decode cX0_copyFrom 27 = .ok (.invokestatic 18, 3) := by decide +kernel
theorem dX0_copyFrom_30 : decode cX0_copyFrom 30 = .ok (.aload_n 0, 1) := by decide +kernel
theorem dX0_copyFrom_31 : decode cX0_copyFrom 31 = .ok (.aload_n 1, 1) := by decide +kernel
theorem dX0_copyFrom_32 : decode cX0_copyFrom 32 = .ok (.getfield 24, 3) := by decide +kernel
theorem dX0_copyFrom_35 : decode cX0_copyFrom 35 = .ok (.putfield 24, 3) := by decide +kernel
theorem dX0_copyFrom_38 : decode cX0_copyFrom 38 = .ok (.return_, 1) := by decide +kernel
theorem dX0_isRight_0 : decode cX0_isRight 0 = .ok (.iconst 0, 1) := by decide +kernel
theorem dX0_isRight_1 : decode cX0_isRight 1 = .ok (.istore_n 2, 1) := by decide +kernel
theorem dX0_isRight_2 : decode cX0_isRight 2 = .ok (.iload_n 2, 1) := by decide +kernel
theorem dX0_isRight_3 : decode cX0_isRight 3 = .ok (.aload_n 0, 1) := by decide +kernel
theorem dX0_isRight_4 : decode cX0_isRight 4 = .ok (.getfield 24, 3) := by decide +kernel
theorem dX0_isRight_7 : decode cX0_isRight 7 = .ok (.if_icmp .ge 40, 3) := by decide +kernel
theorem dX0_isRight_10 : decode cX0_isRight 10 = .ok (.aload_n 0, 1) := by decide +kernel
theorem dX0_isRight_11 : decode cX0_isRight 11 = .ok (.getfield 9, 3) := by decide +kernel
theorem dX0_isRight_14 : decode cX0_isRight 14 = .ok (.iload_n 2, 1) := by decide +kernel
theorem dX0_isRight_15 : decode cX0_isRight 15 = .ok (.iaload, 1) := by decide +kernel
theorem dX0_isRight_16 : decode cX0_isRight 16 = .ok (.istore_n 3, 1) := by decide +kernel
theorem dX0_isRight_17 : decode cX0_isRight 17 = .ok (.iload_n 3, 1) := by decide +kernel
theorem dX0_isRight_18 : decode cX0_isRight 18 = .ok (.ifCond .lt 21, 3) := by decide +kernel
theorem dX0_isRight_21 : decode cX0_isRight 21 = .ok (.iload_n 3, 1) := by decide +kernel
theorem dX0_isRight_22 : decode cX0_isRight 22 = .ok (.aload_n 1, 1) := by decide +kernel
theorem dX0_isRight_23 : decode cX0_isRight 23 = .ok (.arraylength, 1) := by decide +kernel
theorem dX0_isRight_24 : decode cX0_isRight 24 = .ok (.if_icmp .ge 15, 3) := by decide +kernel
theorem dX0_isRight_27 : decode cX0_isRight 27 = .ok (.aload_n 1, 1) := by decide +kernel
theorem dX0_isRight_28 : decode cX0_isRight 28 = .ok (.iload_n 3, 1) := by decide +kernel
theorem dX0_isRight_29 : decode cX0_isRight 29 = .ok (.iaload, 1) := by decide +kernel
theorem dX0_isRight_30 : decode cX0_isRight 30 = .ok (.aload_n 0, 1) := by decide +kernel
theorem dX0_isRight_31 : decode cX0_isRight 31 = .ok (.getfield 15, 3) := by decide +kernel
theorem dX0_isRight_34 : decode cX0_isRight 34 = .ok (.iload_n 2, 1) := by decide +kernel
theorem dX0_isRight_35 : decode cX0_isRight 35 = .ok (.iaload, 1) := by decide +kernel
theorem dX0_isRight_36 : decode cX0_isRight 36 = .ok (.if_icmp .eq 5, 3) := by decide +kernel
theorem dX0_isRight_39 : decode cX0_isRight 39 = .ok (.iconst 0, 1) := by decide +kernel
theorem dX0_isRight_40 : decode cX0_isRight 40 = .ok (.ireturn, 1) := by decide +kernel
theorem dX0_isRight_41 : decode cX0_isRight 41 = .ok (.iinc 2 1, 3) := by decide +kernel
theorem dX0_isRight_44 : decode cX0_isRight 44 = .ok (.goto (-42), 3) := by decide +kernel
theorem dX0_isRight_47 : decode cX0_isRight 47 = .ok (.iconst 1, 1) := by decide +kernel
theorem dX0_isRight_48 : decode cX0_isRight 48 = .ok (.ireturn, 1) := by decide +kernel
theorem dX4_readSum_0 : decode cX4_readSum 0 = .ok (.aload_n 0, 1) := by decide +kernel
theorem dX4_readSum_1 : decode cX4_readSum 1 = .ok (.aload_n 1, 1) := by decide +kernel
theorem dX4_readSum_2 : decode cX4_readSum 2 = .ok (.iload_n 2, 1) := by decide +kernel
theorem dX4_readSum_3 : decode cX4_readSum 3 = .ok (.invokevirtual 49, 3) := by decide +kernel
theorem dX4_readSum_6 : decode cX4_readSum 6 = .ok (.istore_n 3, 1) := by decide +kernel
theorem dX4_readSum_7 : decode cX4_readSum 7 = .ok (.iconst 0, 1) := by decide +kernel
theorem dX4_readSum_8 : decode cX4_readSum 8 = .ok (.istore 4, 2) := by decide +kernel
theorem dX4_readSum_10 : decode cX4_readSum 10 = .ok (.iload 4, 2) := by decide +kernel
theorem dX4_readSum_12 : decode cX4_readSum 12 = .ok (.sipush 150, 3) := by decide +kernel
theorem dX4_readSum_15 : decode cX4_readSum 15 = .ok (.if_icmp .ge 78, 3) := by decide +kernel
theorem dX4_readSum_18 : decode cX4_readSum 18 = .ok (.iload_n 3, 1) := by decide +kernel
theorem dX4_readSum_19 : decode cX4_readSum 19 = .ok (.ifCond .eq 74, 3) := by decide +kernel
theorem dX4_readSum_22 : decode cX4_readSum 22 = .ok (.aload_n 1, 1) := by decide +kernel
theorem dX4_readSum_23 : decode cX4_readSum 23 = .ok (.bipush 43, 2) := by decide +kernel
theorem dX4_readSum_25 : decode cX4_readSum 25 = .ok (.invokevirtual 52, 3) := by decide +kernel
theorem dX4_readSum_28 : decode cX4_readSum 28 = .ok (.ifCond .eq 9, 3) := by decide +kernel
theorem dX4_readSum_31 : decode cX4_readSum 31 = .ok (.sipush 1100, 3) := by decide +kernel
theorem dX4_readSum_34 : decode cX4_readSum 34 = .ok (.goto 19, 3) := by decide +kernel
theorem dX4_readSum_37 : decode cX4_readSum 37 = .ok (.aload_n 1, 1) := by decide +kernel
theorem dX4_readSum_38 : decode cX4_readSum 38 = .ok (.bipush 45, 2) := by decide +kernel
theorem dX4_readSum_40 : decode cX4_readSum 40 = .ok (.invokevirtual 52, 3) := by decide +kernel
theorem dX4_readSum_43 : decode cX4_readSum 43 = .ok (.ifCond .eq 9, 3) := by decide +kernel
theorem dX4_readSum_46 : decode cX4_readSum 46 = .ok (.sipush 1101, 3) := by decide +kernel
theorem dX4_readSum_49 : decode cX4_readSum 49 = .ok (.goto 4, 3) := by decide +kernel
theorem dX4_readSum_52 : decode cX4_readSum 52 = .ok (.iconst (-1), 1) := by decide +kernel
theorem dX4_readSum_53 : decode cX4_readSum 53 = .ok (.istore 5, 2) := by decide +kernel
theorem dX4_readSum_55 : decode cX4_readSum 55 = .ok (.iload 5, 2) := by decide +kernel
theorem dX4_readSum_57 : decode cX4_readSum 57 = .ok (.iconst (-1), 1) := by decide +kernel
theorem dX4_readSum_58 : decode cX4_readSum 58 = .ok (.if_icmp .ne 5, 3) := by decide +kernel
theorem dX4_readSum_61 : decode cX4_readSum 61 = .ok (.iconst 1, 1) := by decide +kernel
theorem dX4_readSum_62 : decode cX4_readSum 62 = .ok (.ireturn, 1) := by decide +kernel
theorem dX4_readSum_63 : decode cX4_readSum 63 = .ok (.aload_n 0, 1) := by decide +kernel
theorem dX4_readSum_64 : decode cX4_readSum 64 = .ok (.aload_n 1, 1) := by decide +kernel
theorem dX4_readSum_65 : decode cX4_readSum 65 = .ok (.iload_n 2, 1) := by decide +kernel
theorem dX4_readSum_66 : decode cX4_readSum 66 = .ok (.invokevirtual 49, 3) := by decide +kernel
theorem dX4_readSum_69 : decode cX4_readSum 69 = .ok (.ifCond .eq 16, 3) := by decide +kernel
theorem dX4_readSum_72 : decode cX4_readSum 72 = .ok (.aload_n 0, 1) := by decide +kernel
theorem dX4_readSum_73 : decode cX4_readSum 73 = .ok (.iload 5, 2) := by decide +kernel
theorem dX4_readSum_75 : decode cX4_readSum 75 = .ok (.invokevirtual 56, 3) := by decide +kernel
theorem dX4_readSum_78 : decode cX4_readSum 78 = .ok (.ifCond .eq 7, 3) := by decide +kernel
theorem dX4_readSum_81 : decode cX4_readSum 81 = .ok (.iconst 1, 1) := by decide +kernel
theorem dX4_readSum_82 : decode cX4_readSum 82 = .ok (.goto 4, 3) := by decide +kernel
theorem dX4_readSum_85 : decode cX4_readSum 85 = .ok (.iconst 0, 1) := by decide +kernel
theorem dX4_readSum_86 : decode cX4_readSum 86 = .ok (.istore_n 3, 1) := by decide +kernel
theorem dX4_readSum_87 : decode cX4_readSum 87 = .ok (.iinc 4 1, 3) := by decide +kernel
theorem dX4_readSum_90 : decode cX4_readSum 90 = .ok (.goto (-80), 3) := by decide +kernel
theorem dX4_readSum_93 : decode cX4_readSum 93 = .ok (.iload_n 3, 1) := by decide +kernel
theorem dX4_readSum_94 : decode cX4_readSum 94 = .ok (.ireturn, 1) := by decide +kernel
theorem dX8_isRead_0 : decode cX8_isRead 0 = .ok (.iload_n 3, 1) := by decide +kernel
theorem dX8_isRead_1 : decode cX8_isRead 1 = .ok (.istore 4, 2) := by decide +kernel
theorem dX8_isRead_3 : decode cX8_isRead 3 = .ok (.iload 4, 2) := by decide +kernel
theorem dX8_isRead_5 : decode cX8_isRead 5 = .ok (.aload_n 0, 1) := by decide +kernel
theorem dX8_isRead_6 : decode cX8_isRead 6 = .ok (.getfield 25, 3) := by decide +kernel
theorem dX8_isRead_9 : decode cX8_isRead 9 = .ok (.if_icmp .ge 31, 3) := by decide +kernel
theorem dX8_isRead_12 : decode cX8_isRead 12 = .ok (.aload_n 1, 1) := by decide +kernel
theorem dX8_isRead_13 : decode cX8_isRead 13 = .ok (.iload_n 2, 1) := by decide +kernel
theorem dX8_isRead_14 : decode cX8_isRead 14 = .ok (.iload 4, 2) := by decide +kernel
theorem dX8_isRead_16 : decode cX8_isRead 16 = .ok (.iadd, 1) := by decide +kernel
theorem dX8_isRead_17 : decode cX8_isRead 17 = .ok (.iload_n 3, 1) := by decide +kernel
theorem dX8_isRead_18 : decode cX8_isRead 18 = .ok (.isub, 1) := by decide +kernel
theorem dX8_isRead_19 : decode cX8_isRead 19 = .ok (.invokevirtual 58, 3) := by decide +kernel
theorem dX8_isRead_22 : decode cX8_isRead 22 = .ok (.aload_n 0, 1) := by decide +kernel
theorem dX8_isRead_23 : decode cX8_isRead 23 = .ok (.getfield 9, 3) := by decide +kernel
theorem dX8_isRead_26 : decode cX8_isRead 26 = .ok (.iload 4, 2) := by decide +kernel
theorem dX8_isRead_28 : decode cX8_isRead 28 = .ok (.iaload, 1) := by decide +kernel
theorem dX8_isRead_29 : decode cX8_isRead 29 = .ok (.if_icmp .eq 5, 3) := by decide +kernel
theorem dX8_isRead_32 : decode cX8_isRead 32 = .ok (.iconst 0, 1) := by decide +kernel
theorem dX8_isRead_33 : decode cX8_isRead 33 = .ok (.ireturn, 1) := by decide +kernel
theorem dX8_isRead_34 : decode cX8_isRead 34 = .ok (.iinc 4 1, 3) := by decide +kernel
theorem dX8_isRead_37 : decode cX8_isRead 37 = .ok (.goto (-34), 3) := by decide +kernel
theorem dX8_isRead_40 : decode cX8_isRead 40 = .ok (.iconst 1, 1) := by decide +kernel
theorem dX8_isRead_41 : decode cX8_isRead 41 = .ok (.ireturn, 1) := by decide +kernel
theorem dX8_number_0 : decode cX8_number 0 = .ok (.aload_n 0, 1) := by decide +kernel
theorem dX8_number_1 : decode cX8_number 1 = .ok (.invokevirtual 31, 3) := by decide +kernel
theorem dX8_number_4 : decode cX8_number 4 = .ok (.istore_n 3, 1) := by decide +kernel
theorem dX8_number_5 : decode cX8_number 5 = .ok (.iconst 0, 1) := by decide +kernel
theorem dX8_number_6 : decode cX8_number 6 = .ok (.istore 4, 2) := by decide +kernel
theorem dX8_number_8 : decode cX8_number 8 = .ok (.aload_n 0, 1) := by decide +kernel
theorem dX8_number_9 : decode cX8_number 9 = .ok (.getfield 25, 3) := by decide +kernel
theorem dX8_number_12 : decode cX8_number 12 = .ok (.aload_n 0, 1) := by decide +kernel
theorem dX8_number_13 : decode cX8_number 13 = .ok (.getfield 22, 3) := by decide +kernel
theorem dX8_number_16 : decode cX8_number 16 = .ok (.if_icmp .ge 56, 3) := by decide +kernel
theorem dX8_number_19 : decode cX8_number 19 = .ok (.aload_n 0, 1) := by decide +kernel
theorem dX8_number_20 : decode cX8_number 20 = .ok (.getfield 9, 3) := by decide +kernel
theorem dX8_number_23 : decode cX8_number 23 = .ok (.aload_n 0, 1) := by decide +kernel
theorem dX8_number_24 : decode cX8_number 24 = .ok (.getfield 25, 3) := by decide +kernel
theorem dX8_number_27 : decode cX8_number 27 = .ok (.iaload, 1) := by decide +kernel
theorem dX8_number_28 : decode cX8_number 28 = .ok (.invokestatic 35, 3) := by decide +kernel
theorem dX8_number_31 : decode cX8_number 31 = .ok (.ifCond .eq 41, 3) := by decide +kernel
theorem dX8_number_34 : decode cX8_number 34 = .ok (.ldc 47, 2) := by decide +kernel
theorem dX8_number_36 : decode cX8_number 36 = .ok (.iload 4, 2) := by decide +kernel
theorem dX8_number_38 : decode cX8_number 38 = .ok (.bipush 10, 2) := by decide +kernel
theorem dX8_number_40 : decode cX8_number 40 = .ok (.imul, 1) := by decide +kernel
theorem dX8_number_41 : decode cX8_number 41 = .ok (.aload_n 0, 1) := by decide +kernel
theorem dX8_number_42 : decode cX8_number 42 = .ok (.getfield 9, 3) := by decide +kernel
theorem dX8_number_45 : decode cX8_number 45 = .ok (.aload_n 0, 1) := by decide +kernel
theorem dX8_number_46 : decode cX8_number 46 = .ok (.getfield 25, 3) := by decide +kernel
theorem dX8_number_49 : decode cX8_number 49 = .ok (.iaload, 1) := by decide +kernel
theorem dX8_number_50 : decode cX8_number 50 = .ok (.iadd, 1) := by decide +kernel
theorem dX8_number_51 : decode cX8_number 51 = .ok (.bipush 48, 2) := by decide +kernel
theorem dX8_number_53 : decode cX8_number 53 = .ok (.isub, 1) := by decide +kernel
theorem dX8_number_54 : decode cX8_number 54 = .ok (.invokestatic 48, 3) := by decide +kernel
theorem dX8_number_57 : decode cX8_number 57 = .ok (.istore 4, 2) := by decide +kernel
theorem dX8_number_59 : decode cX8_number 59 = .ok (.aload_n 0, 1) := by decide +kernel
theorem dX8_number_60 : decode cX8_number 60 = .ok (.dup, 1) := by decide +kernel
theorem dX8_number_61 : decode cX8_number 61 = .ok (.getfield 25, 3) := by decide +kernel
theorem dX8_number_64 : decode cX8_number 64 = .ok (.iconst 1, 1) := by decide +kernel
theorem dX8_number_65 : decode cX8_number 65 = .ok (.iadd, 1) := by decide +kernel
theorem dX8_number_66 : decode cX8_number 66 = .ok (.putfield 25, 3) := by decide +kernel
theorem dX8_number_69 : decode cX8_number 69 = .ok (.goto (-61), 3) := by decide +kernel
theorem dX8_number_72 : decode cX8_number 72 = .ok (.aload_n 0, 1) := by decide +kernel
theorem dX8_number_73 : decode cX8_number 73 = .ok (.getfield 25, 3) := by decide +kernel
theorem dX8_number_76 : decode cX8_number 76 = .ok (.iload_n 3, 1) := by decide +kernel
theorem dX8_number_77 : decode cX8_number 77 = .ok (.if_icmp .ne 12, 3) := by decide +kernel
theorem dX8_number_80 : decode cX8_number 80 = .ok (.aload_n 0, 1) := by decide +kernel
theorem dX8_number_81 : decode cX8_number 81 = .ok (.iconst 1, 1) := by decide +kernel
theorem dX8_number_82 : decode cX8_number 82 = .ok (.iload_n 3, 1) := by decide +kernel
theorem dX8_number_83 : decode cX8_number 83 = .ok (.invokevirtual 43, 3) := by decide +kernel
theorem dX8_number_86 : decode cX8_number 86 = .ok (.pop, 1) := by decide +kernel
theorem dX8_number_87 : decode cX8_number 87 = .ok (.iconst (-1), 1) := by decide +kernel
theorem dX8_number_88 : decode cX8_number 88 = .ok (.ireturn, 1) := by decide +kernel
theorem dX8_number_89 : decode cX8_number 89 = .ok (.iload 4, 2) := by decide +kernel
theorem dX8_number_91 : decode cX8_number 91 = .ok (.iload_n 1, 1) := by decide +kernel
theorem dX8_number_92 : decode cX8_number 92 = .ok (.if_icmp .lt 9, 3) := by decide +kernel
theorem dX8_number_95 : decode cX8_number 95 = .ok (.iload 4, 2) := by decide +kernel
theorem dX8_number_97 : decode cX8_number 97 = .ok (.iload_n 2, 1) := by decide +kernel
theorem dX8_number_98 : decode cX8_number 98 = .ok (.if_icmp .le 12, 3) := by decide +kernel
theorem dX8_number_101 : decode cX8_number 101 = .ok (.aload_n 0, 1) := by decide +kernel
theorem dX8_number_102 : decode cX8_number 102 = .ok (.iconst 2, 1) := by decide +kernel
theorem dX8_number_103 : decode cX8_number 103 = .ok (.iload_n 3, 1) := by decide +kernel
theorem dX8_number_104 : decode cX8_number 104 = .ok (.invokevirtual 43, 3) := by decide +kernel
theorem dX8_number_107 : decode cX8_number 107 = .ok (.pop, 1) := by decide +kernel
theorem dX8_number_108 : decode cX8_number 108 = .ok (.iconst (-1), 1) := by decide +kernel
theorem dX8_number_109 : decode cX8_number 109 = .ok (.ireturn, 1) := by decide +kernel
theorem dX8_number_110 : decode cX8_number 110 = .ok (.iload 4, 2) := by decide +kernel
theorem dX8_number_112 : decode cX8_number 112 = .ok (.ireturn, 1) := by decide +kernel
theorem dX8_put_0 : decode cX8_put 0 = .ok (.bipush 24, 2) := by decide +kernel
theorem dX8_put_2 : decode cX8_put 2 = .ok (.istore_n 2, 1) := by decide +kernel
theorem dX8_put_3 : decode cX8_put 3 = .ok (.iload_n 2, 1) := by decide +kernel
theorem dX8_put_4 : decode cX8_put 4 = .ok (.ifCond .lt 45, 3) := by decide +kernel
theorem dX8_put_7 : decode cX8_put 7 = .ok (.aload_n 0, 1) := by decide +kernel
theorem dX8_put_8 : decode cX8_put 8 = .ok (.getfield 19, 3) := by decide +kernel
theorem dX8_put_11 : decode cX8_put 11 = .ok (.sipush 600, 3) := by decide +kernel
theorem dX8_put_14 : decode cX8_put 14 = .ok (.if_icmp .ge 35, 3) := by decide +kernel
theorem dX8_put_17 : decode cX8_put 17 = .ok (.aload_n 0, 1) := by decide +kernel
theorem dX8_put_18 : decode cX8_put 18 = .ok (.getfield 9, 3) := by decide +kernel
theorem dX8_put_21 : decode cX8_put 21 = .ok (.aload_n 0, 1) := by decide +kernel
theorem dX8_put_22 : decode cX8_put 22 = .ok (.getfield 19, 3) := by decide +kernel
theorem dX8_put_25 : decode cX8_put 25 = .ok (.iload_n 1, 1) := by decide +kernel
theorem dX8_put_26 : decode cX8_put 26 = .ok (.iload_n 2, 1) := by decide +kernel
theorem dX8_put_27 : decode cX8_put 27 = .ok (.iushr, 1) := by decide +kernel
theorem dX8_put_28 : decode cX8_put 28 = .ok (.sipush 255, 3) := by decide +kernel
theorem dX8_put_31 : decode cX8_put 31 = .ok (.iand, 1) := by decide +kernel
theorem dX8_put_32 : decode cX8_put 32 = .ok (.iastore, 1) := by decide +kernel
theorem dX8_put_33 : decode cX8_put 33 = .ok (.aload_n 0, 1) := by decide +kernel
theorem dX8_put_34 : decode cX8_put 34 = .ok (.dup, 1) := by decide +kernel
theorem dX8_put_35 : decode cX8_put 35 = .ok (.getfield 19, 3) := by decide +kernel
theorem dX8_put_38 : decode cX8_put 38 = .ok (.iconst 1, 1) := by decide +kernel
theorem dX8_put_39 : decode cX8_put 39 = .ok (.iadd, 1) := by decide +kernel
theorem dX8_put_40 : decode cX8_put 40 = .ok (.putfield 19, 3) := by decide +kernel
theorem dX8_put_43 : decode cX8_put 43 = .ok (.iinc 2 (-8), 3) := by decide +kernel
theorem dX8_put_46 : decode cX8_put 46 = .ok (.goto (-43), 3) := by decide +kernel
theorem dX8_put_49 : decode cX8_put 49 = .ok (.return_, 1) := by decide +kernel
theorem dX4_read_0 : decode cX4_read 0 = .ok (.aload_n 0, 1) := by decide +kernel
theorem dX4_read_1 : decode cX4_read 1 = .ok (.iconst 0, 1) := by decide +kernel
theorem dX4_read_2 : decode cX4_read 2 = .ok (.putfield 21, 3) := by decide +kernel
theorem dX4_read_5 : decode cX4_read 5 = .ok (.aload_n 0, 1) := by decide +kernel
theorem dX4_read_6 : decode cX4_read 6 = .ok (.aload_n 1, 1) := by decide +kernel
theorem dX4_read_7 : decode cX4_read 7 = .ok (.iconst 0, 1) := by decide +kernel
theorem dX4_read_8 : decode cX4_read 8 = .ok (.invokevirtual 31, 3) := by decide +kernel
theorem dX4_read_11 : decode cX4_read 11 = .ok (.ifCond .eq 26, 3) := by decide +kernel
theorem dX4_read_14 : decode cX4_read 14 = .ok (.aload_n 1, 1) := by decide +kernel
theorem dX4_read_15 : decode cX4_read 15 = .ok (.invokevirtual 35, 3) := by decide +kernel
theorem dX4_read_18 : decode cX4_read 18 = .ok (.ifCond .ne 15, 3) := by decide +kernel
theorem dX4_read_21 : decode cX4_read 21 = .ok (.aload_n 1, 1) := by decide +kernel
theorem dX4_read_22 : decode cX4_read 22 = .ok (.iconst 1, 1) := by decide +kernel
theorem dX4_read_23 : decode cX4_read 23 = .ok (.aload_n 1, 1) := by decide +kernel
theorem dX4_read_24 : decode cX4_read 24 = .ok (.invokevirtual 41, 3) := by decide +kernel
theorem dX4_read_27 : decode cX4_read 27 = .ok (.invokevirtual 45, 3) := by decide +kernel
theorem dX4_read_30 : decode cX4_read 30 = .ok (.ifCond .eq 7, 3) := by decide +kernel
theorem dX4_read_33 : decode cX4_read 33 = .ok (.iconst 1, 1) := by decide +kernel
theorem dX4_read_34 : decode cX4_read 34 = .ok (.goto 4, 3) := by decide +kernel
theorem dX4_read_37 : decode cX4_read 37 = .ok (.iconst 0, 1) := by decide +kernel
theorem dX4_read_38 : decode cX4_read 38 = .ok (.ireturn, 1) := by decide +kernel
theorem dX7_push_0 : decode cX7_push 0 = .ok (.aload_n 0, 1) := by decide +kernel
theorem dX7_push_1 : decode cX7_push 1 = .ok (.getfield 18, 3) := by decide +kernel
theorem dX7_push_4 : decode cX7_push 4 = .ok (.bipush 16, 2) := by decide +kernel
theorem dX7_push_6 : decode cX7_push 6 = .ok (.if_icmp .ge 26, 3) := by decide +kernel
theorem dX7_push_9 : decode cX7_push 9 = .ok (.aload_n 0, 1) := by decide +kernel
theorem dX7_push_10 : decode cX7_push 10 = .ok (.getfield 11, 3) := by decide +kernel
theorem dX7_push_13 : decode cX7_push 13 = .ok (.aload_n 0, 1) := by decide +kernel
theorem dX7_push_14 : decode cX7_push 14 = .ok (.getfield 18, 3) := by decide +kernel
theorem dX7_push_17 : decode cX7_push 17 = .ok (.aaload, 1) := by decide +kernel
theorem dX7_push_18 : decode cX7_push 18 = .ok (.aload_n 1, 1) := by decide +kernel
theorem dX7_push_19 : decode cX7_push 19 = .ok (.invokevirtual 22, 3) := by decide +kernel
theorem dX7_push_22 : decode cX7_push 22 = .ok (.aload_n 0, 1) := by decide +kernel
theorem dX7_push_23 : decode cX7_push 23 = .ok (.dup, 1) := by decide +kernel
theorem dX7_push_24 : decode cX7_push 24 = .ok (.getfield 18, 3) := by decide +kernel
theorem dX7_push_27 : decode cX7_push 27 = .ok (.iconst 1, 1) := by decide +kernel
theorem dX7_push_28 : decode cX7_push 28 = .ok (.iadd, 1) := by decide +kernel
theorem dX7_push_29 : decode cX7_push 29 = .ok (.putfield 18, 3) := by decide +kernel
theorem dX7_push_32 : decode cX7_push 32 = .ok (.return_, 1) := by decide +kernel
theorem dX4_lay_0 : decode cX4_lay 0 = .ok (.aload_n 0, 1) := by decide +kernel
theorem dX4_lay_1 : decode cX4_lay 1 = .ok (.getfield 21, 3) := by decide +kernel
theorem dX4_lay_4 : decode cX4_lay 4 = .ok (.aload_n 0, 1) := by decide +kernel
theorem dX4_lay_5 : decode cX4_lay 5 = .ok (.getfield 9, 3) := by decide +kernel
theorem dX4_lay_8 : decode cX4_lay 8 = .ok (.arraylength, 1) := by decide +kernel
theorem dX4_lay_9 : decode cX4_lay 9 = .ok (.if_icmp .lt 5, 3) := by decide +kernel
theorem dX4_lay_12 : decode cX4_lay 12 = .ok (.iconst 0, 1) := by decide +kernel
theorem dX4_lay_13 : decode cX4_lay 13 = .ok (.ireturn, 1) := by decide +kernel
theorem dX4_lay_14 : decode cX4_lay 14 = .ok (.aload_n 0, 1) := by decide +kernel
theorem dX4_lay_15 : decode cX4_lay 15 = .ok (.getfield 9, 3) := by decide +kernel
theorem dX4_lay_18 : decode cX4_lay 18 = .ok (.aload_n 0, 1) := by decide +kernel
theorem dX4_lay_19 : decode cX4_lay 19 = .ok (.getfield 21, 3) := by decide +kernel
theorem dX4_lay_22 : decode cX4_lay 22 = .ok (.iload_n 1, 1) := by decide +kernel
theorem dX4_lay_23 : decode cX4_lay 23 = .ok (.iastore, 1) := by decide +kernel
theorem dX4_lay_24 : decode cX4_lay 24 = .ok (.aload_n 0, 1) := by decide +kernel
theorem dX4_lay_25 : decode cX4_lay 25 = .ok (.dup, 1) := by decide +kernel
theorem dX4_lay_26 : decode cX4_lay 26 = .ok (.getfield 21, 3) := by decide +kernel
theorem dX4_lay_29 : decode cX4_lay 29 = .ok (.iconst 1, 1) := by decide +kernel
theorem dX4_lay_30 : decode cX4_lay 30 = .ok (.iadd, 1) := by decide +kernel
theorem dX4_lay_31 : decode cX4_lay 31 = .ok (.putfield 21, 3) := by decide +kernel
theorem dX4_lay_34 : decode cX4_lay 34 = .ok (.iconst 1, 1) := by decide +kernel
theorem dX4_lay_35 : decode cX4_lay 35 = .ok (.ireturn, 1) := by decide +kernel
theorem dX1_read_0 : decode cX1_read 0 = .ok (.aload_n 0, 1) := by decide +kernel
theorem dX1_read_1 : decode cX1_read 1 = .ok (.iconst 0, 1) := by decide +kernel
theorem dX1_read_2 : decode cX1_read 2 = .ok (.putfield 31, 3) := by decide +kernel
theorem dX1_read_5 : decode cX1_read 5 = .ok (.aload_n 0, 1) := by decide +kernel
theorem dX1_read_6 : decode cX1_read 6 = .ok (.iconst 0, 1) := by decide +kernel
theorem dX1_read_7 : decode cX1_read 7 = .ok (.putfield 34, 3) := by decide +kernel
theorem dX1_read_10 : decode cX1_read 10 = .ok (.aload_n 0, 1) := by decide +kernel
theorem dX1_read_11 : decode cX1_read 11 = .ok (.bipush 60, 2) := by decide +kernel
theorem dX1_read_13 : decode cX1_read 13 = .ok (.putfield 21, 3) := by decide +kernel
theorem dX1_read_16 : decode cX1_read 16 = .ok (.aload_n 0, 1) := by decide +kernel
theorem dX1_read_17 : decode cX1_read 17 = .ok (.getfield 9, 3) := by decide +kernel
theorem dX1_read_20 : decode cX1_read 20 = .ok (.iconst 0, 1) := by decide +kernel
theorem dX1_read_21 : decode cX1_read 21 = .ok (.invokestatic 37, 3) := by decide +kernel
theorem dX1_read_24 : decode cX1_read 24 = .ok (.iconst 0, 1) := by decide +kernel
theorem dX1_read_25 : decode cX1_read 25 = .ok (.istore_n 2, 1) := by decide +kernel
theorem dX1_read_26 : decode cX1_read 26 = .ok (.iload_n 2, 1) := by decide +kernel
theorem dX1_read_27 : decode cX1_read 27 = .ok (.bipush 60, 2) := by decide +kernel
theorem dX1_read_29 : decode cX1_read 29 = .ok (.if_icmp .gt 31, 3) := by decide +kernel
theorem dX1_read_32 : decode cX1_read 32 = .ok (.aload_n 1, 1) := by decide +kernel
theorem dX1_read_33 : decode cX1_read 33 = .ok (.invokevirtual 43, 3) := by decide +kernel
theorem dX1_read_36 : decode cX1_read 36 = .ok (.ifCond .ne 24, 3) := by decide +kernel
theorem dX1_read_39 : decode cX1_read 39 = .ok (.aload_n 0, 1) := by decide +kernel
theorem dX1_read_40 : decode cX1_read 40 = .ok (.aload_n 1, 1) := by decide +kernel
theorem dX1_read_41 : decode cX1_read 41 = .ok (.iload_n 2, 1) := by decide +kernel
theorem dX1_read_42 : decode cX1_read 42 = .ok (.invokevirtual 49, 3) := by decide +kernel
theorem dX1_read_45 : decode cX1_read 45 = .ok (.aload_n 1, 1) := by decide +kernel
theorem dX1_read_46 : decode cX1_read 46 = .ok (.invokevirtual 53, 3) := by decide +kernel
theorem dX1_read_49 : decode cX1_read 49 = .ok (.ifCond .ne 5, 3) := by decide +kernel
theorem dX1_read_52 : decode cX1_read 52 = .ok (.iconst 0, 1) := by decide +kernel
theorem dX1_read_53 : decode cX1_read 53 = .ok (.ireturn, 1) := by decide +kernel
theorem dX1_read_54 : decode cX1_read 54 = .ok (.iinc 2 1, 3) := by decide +kernel
theorem dX1_read_57 : decode cX1_read 57 = .ok (.goto (-31), 3) := by decide +kernel
theorem dX1_read_60 : decode cX1_read 60 = .ok (.iconst 1, 1) := by decide +kernel
theorem dX1_read_61 : decode cX1_read 61 = .ok (.ireturn, 1) := by decide +kernel
theorem dX4_readProduct_0 : decode cX4_readProduct 0 = .ok (.aload_n 0, 1) := by decide +kernel
theorem dX4_readProduct_1 : decode cX4_readProduct 1 = .ok (.aload_n 1, 1) := by decide +kernel
theorem dX4_readProduct_2 : decode cX4_readProduct 2 = .ok (.iload_n 2, 1) := by decide +kernel
theorem dX4_readProduct_3 : decode cX4_readProduct 3 = .ok (.invokevirtual 60, 3) := by decide +kernel
theorem dX4_readProduct_6 : decode cX4_readProduct 6 = .ok (.istore_n 3, 1) := by decide +kernel
theorem dX4_readProduct_7 : decode cX4_readProduct 7 = .ok (.iconst 0, 1) := by decide +kernel
theorem dX4_readProduct_8 : decode cX4_readProduct 8 = .ok (.istore 4, 2) := by decide +kernel
theorem dX4_readProduct_10 : decode cX4_readProduct 10 = .ok (.iload 4, 2) := by decide +kernel
theorem dX4_readProduct_12 : decode cX4_readProduct 12 = .ok (.sipush 150, 3) := by decide +kernel
theorem dX4_readProduct_15 : decode cX4_readProduct 15 = .ok (.if_icmp .ge 93, 3) := by decide +kernel
theorem dX4_readProduct_18 : decode cX4_readProduct 18 = .ok (.iload_n 3, 1) := by decide +kernel
theorem dX4_readProduct_19 : decode cX4_readProduct 19 = .ok (.ifCond .eq 89, 3) := by decide +kernel
theorem dX4_readProduct_22 : decode cX4_readProduct 22 = .ok (.aload_n 1, 1) := by decide +kernel
theorem dX4_readProduct_23 : decode cX4_readProduct 23 = .ok (.bipush 42, 2) := by decide +kernel
theorem dX4_readProduct_25 : decode cX4_readProduct 25 = .ok (.invokevirtual 52, 3) := by decide +kernel
theorem dX4_readProduct_28 : decode cX4_readProduct 28 = .ok (.ifCond .eq 9, 3) := by decide +kernel
theorem dX4_readProduct_31 : decode cX4_readProduct 31 = .ok (.sipush 1102, 3) := by decide +kernel
theorem dX4_readProduct_34 : decode cX4_readProduct 34 = .ok (.goto 34, 3) := by decide +kernel
theorem dX4_readProduct_37 : decode cX4_readProduct 37 = .ok (.aload_n 1, 1) := by decide +kernel
theorem dX4_readProduct_38 : decode cX4_readProduct 38 = .ok (.bipush 47, 2) := by decide +kernel
theorem dX4_readProduct_40 : decode cX4_readProduct 40 = .ok (.invokevirtual 52, 3) := by decide +kernel
theorem dX4_readProduct_43 : decode cX4_readProduct 43 = .ok (.ifCond .eq 9, 3) := by decide +kernel
theorem dX4_readProduct_46 : decode cX4_readProduct 46 = .ok (.sipush 1103, 3) := by decide +kernel
theorem dX4_readProduct_49 : decode cX4_readProduct 49 = .ok (.goto 19, 3) := by decide +kernel
theorem dX4_readProduct_52 : decode cX4_readProduct 52 = .ok (.aload_n 1, 1) := by decide +kernel
theorem dX4_readProduct_53 : decode cX4_readProduct 53 = .ok (.bipush 37, 2) := by decide +kernel
theorem dX4_readProduct_55 : decode cX4_readProduct 55 = .ok (.invokevirtual 52, 3) := by decide +kernel
theorem dX4_readProduct_58 : decode cX4_readProduct 58 = .ok (.ifCond .eq 9, 3) := by decide +kernel
theorem dX4_readProduct_61 : decode cX4_readProduct 61 = .ok (.sipush 1104, 3) := by decide +kernel
theorem dX4_readProduct_64 : decode cX4_readProduct 64 = .ok (.goto 4, 3) := by decide +kernel
theorem dX4_readProduct_67 : decode cX4_readProduct 67 = .ok (.iconst (-1), 1) := by decide +kernel
theorem dX4_readProduct_68 : decode cX4_readProduct 68 = .ok (.istore 5, 2) := by decide +kernel
theorem dX4_readProduct_70 : decode cX4_readProduct 70 = .ok (.iload 5, 2) := by decide +kernel
theorem dX4_readProduct_72 : decode cX4_readProduct 72 = .ok (.iconst (-1), 1) := by decide +kernel
theorem dX4_readProduct_73 : decode cX4_readProduct 73 = .ok (.if_icmp .ne 5, 3) := by decide +kernel
theorem dX4_readProduct_76 : decode cX4_readProduct 76 = .ok (.iconst 1, 1) := by decide +kernel
theorem dX4_readProduct_77 : decode cX4_readProduct 77 = .ok (.ireturn, 1) := by decide +kernel
theorem dX4_readProduct_78 : decode cX4_readProduct 78 = .ok (.aload_n 0, 1) := by decide +kernel
theorem dX4_readProduct_79 : decode cX4_readProduct 79 = .ok (.aload_n 1, 1) := by decide +kernel
theorem dX4_readProduct_80 : decode cX4_readProduct 80 = .ok (.iload_n 2, 1) := by decide +kernel
theorem dX4_readProduct_81 : decode cX4_readProduct 81 = .ok (.invokevirtual 60, 3) := by decide +kernel
theorem dX4_readProduct_84 : decode cX4_readProduct 84 = .ok (.ifCond .eq 16, 3) := by decide +kernel
theorem dX4_readProduct_87 : decode cX4_readProduct 87 = .ok (.aload_n 0, 1) := by decide +kernel
theorem dX4_readProduct_88 : decode cX4_readProduct 88 = .ok (.iload 5, 2) := by decide +kernel
theorem dX4_readProduct_90 : decode cX4_readProduct 90 = .ok (.invokevirtual 56, 3) := by decide +kernel
theorem dX4_readProduct_93 : decode cX4_readProduct 93 = .ok (.ifCond .eq 7, 3) := by decide +kernel
theorem dX4_readProduct_96 : decode cX4_readProduct 96 = .ok (.iconst 1, 1) := by decide +kernel
theorem dX4_readProduct_97 : decode cX4_readProduct 97 = .ok (.goto 4, 3) := by decide +kernel
theorem dX4_readProduct_100 : decode cX4_readProduct 100 = .ok (.iconst 0, 1) := by decide +kernel
theorem dX4_readProduct_101 : decode cX4_readProduct 101 = .ok (.istore_n 3, 1) := by decide +kernel
theorem dX4_readProduct_102 : decode cX4_readProduct 102 = .ok (.iinc 4 1, 3) := by decide +kernel
theorem dX4_readProduct_105 : decode cX4_readProduct 105 = .ok (.goto (-95), 3) := by decide +kernel
theorem dX4_readProduct_108 : decode cX4_readProduct 108 = .ok (.iload_n 3, 1) := by decide +kernel
theorem dX4_readProduct_109 : decode cX4_readProduct 109 = .ok (.ireturn, 1) := by decide +kernel
theorem dX8_seesDigit_0 : decode cX8_seesDigit 0 = .ok (.aload_n 0, 1) := by decide +kernel
theorem dX8_seesDigit_1 : decode cX8_seesDigit 1 = .ok (.invokevirtual 31, 3) := by decide +kernel
theorem dX8_seesDigit_4 : decode cX8_seesDigit 4 = .ok (.aload_n 0, 1) := by decide +kernel
theorem dX8_seesDigit_5 : decode cX8_seesDigit 5 = .ok (.getfield 22, 3) := by decide +kernel
theorem dX8_seesDigit_8 : decode cX8_seesDigit 8 = .ok (.if_icmp .ge 22, 3) := by decide +kernel
theorem dX8_seesDigit_11 : decode cX8_seesDigit 11 = .ok (.aload_n 0, 1) := by decide +kernel
theorem dX8_seesDigit_12 : decode cX8_seesDigit 12 = .ok (.getfield 9, 3) := by decide +kernel
theorem dX8_seesDigit_15 : decode cX8_seesDigit 15 = .ok (.aload_n 0, 1) := by decide +kernel
theorem dX8_seesDigit_16 : decode cX8_seesDigit 16 = .ok (.getfield 25, 3) := by decide +kernel
theorem dX8_seesDigit_19 : decode cX8_seesDigit 19 = .ok (.iaload, 1) := by decide +kernel
theorem dX8_seesDigit_20 : decode cX8_seesDigit 20 = .ok (.invokestatic 35, 3) := by decide +kernel
theorem dX8_seesDigit_23 : decode cX8_seesDigit 23 = .ok (.ifCond .eq 7, 3) := by decide +kernel
theorem dX8_seesDigit_26 : decode cX8_seesDigit 26 = .ok (.iconst 1, 1) := by decide +kernel
theorem dX8_seesDigit_27 : decode cX8_seesDigit 27 = .ok (.goto 4, 3) := by decide +kernel
theorem dX8_seesDigit_30 : decode cX8_seesDigit 30 = .ok (.iconst 0, 1) := by decide +kernel
theorem dX8_seesDigit_31 : decode cX8_seesDigit 31 = .ok (.ireturn, 1) := by decide +kernel
theorem dX8_word_0 : decode cX8_word 0 = .ok (.aload_n 0, 1) := by decide +kernel
theorem dX8_word_1 : decode cX8_word 1 = .ok (.invokevirtual 31, 3) := by decide +kernel
theorem dX8_word_4 : decode cX8_word 4 = .ok (.istore_n 2, 1) := by decide +kernel
theorem dX8_word_5 : decode cX8_word 5 = .ok (.aload_n 0, 1) := by decide +kernel
theorem dX8_word_6 : decode cX8_word 6 = .ok (.getfield 25, 3) := by decide +kernel
theorem dX8_word_9 : decode cX8_word 9 = .ok (.aload_n 0, 1) := by decide +kernel
theorem dX8_word_10 : decode cX8_word 10 = .ok (.getfield 22, 3) := by decide +kernel
theorem dX8_word_13 : decode cX8_word 13 = .ok (.if_icmp .ge 44, 3) := by decide +kernel
theorem dX8_word_16 : decode cX8_word 16 = .ok (.aload_n 0, 1) := by decide +kernel
theorem dX8_word_17 : decode cX8_word 17 = .ok (.getfield 9, 3) := by decide +kernel
theorem dX8_word_20 : decode cX8_word 20 = .ok (.aload_n 0, 1) := by decide +kernel
theorem dX8_word_21 : decode cX8_word 21 = .ok (.getfield 25, 3) := by decide +kernel
theorem dX8_word_24 : decode cX8_word 24 = .ok (.iaload, 1) := by decide +kernel
theorem dX8_word_25 : decode cX8_word 25 = .ok (.bipush 97, 2) := by decide +kernel
theorem dX8_word_27 : decode cX8_word 27 = .ok (.if_icmp .lt 30, 3) := by decide +kernel
theorem dX8_word_30 : decode cX8_word 30 = .ok (.aload_n 0, 1) := by decide +kernel
theorem dX8_word_31 : decode cX8_word 31 = .ok (.getfield 9, 3) := by decide +kernel
theorem dX8_word_34 : decode cX8_word 34 = .ok (.aload_n 0, 1) := by decide +kernel
theorem dX8_word_35 : decode cX8_word 35 = .ok (.getfield 25, 3) := by decide +kernel
theorem dX8_word_38 : decode cX8_word 38 = .ok (.iaload, 1) := by decide +kernel
theorem dX8_word_39 : decode cX8_word 39 = .ok (.bipush 122, 2) := by decide +kernel
theorem dX8_word_41 : decode cX8_word 41 = .ok (.if_icmp .gt 16, 3) := by decide +kernel
theorem dX8_word_44 : decode cX8_word 44 = .ok (.aload_n 0, 1) := by decide +kernel
theorem dX8_word_45 : decode cX8_word 45 = .ok (.dup, 1) := by decide +kernel
theorem dX8_word_46 : decode cX8_word 46 = .ok (.getfield 25, 3) := by decide +kernel
theorem dX8_word_49 : decode cX8_word 49 = .ok (.iconst 1, 1) := by decide +kernel
theorem dX8_word_50 : decode cX8_word 50 = .ok (.iadd, 1) := by decide +kernel
theorem dX8_word_51 : decode cX8_word 51 = .ok (.putfield 25, 3) := by decide +kernel
theorem dX8_word_54 : decode cX8_word 54 = .ok (.goto (-49), 3) := by decide +kernel
theorem dX8_word_57 : decode cX8_word 57 = .ok (.iconst 0, 1) := by decide +kernel
theorem dX8_word_58 : decode cX8_word 58 = .ok (.istore_n 3, 1) := by decide +kernel
theorem dX8_word_59 : decode cX8_word 59 = .ok (.iconst 0, 1) := by decide +kernel
theorem dX8_word_60 : decode cX8_word 60 = .ok (.istore 4, 2) := by decide +kernel
theorem dX8_word_62 : decode cX8_word 62 = .ok (.iconst 0, 1) := by decide +kernel
theorem dX8_word_63 : decode cX8_word 63 = .ok (.istore 5, 2) := by decide +kernel
theorem dX8_word_65 : decode cX8_word 65 = .ok (.iload 5, 2) := by decide +kernel
theorem dX8_word_67 : decode cX8_word 67 = .ok (.aload_n 1, 1) := by decide +kernel
theorem dX8_word_68 : decode cX8_word 68 = .ok (.invokevirtual 54, 3) := by decide +kernel
theorem dX8_word_71 : decode cX8_word 71 = .ok (.if_icmp .ge 56, 3) := by decide +kernel
theorem dX8_word_74 : decode cX8_word 74 = .ok (.aload_n 1, 1) := by decide +kernel
theorem dX8_word_75 : decode cX8_word 75 = .ok (.iload 5, 2) := by decide +kernel
theorem dX8_word_77 : decode cX8_word 77 = .ok (.invokevirtual 58, 3) := by decide +kernel
theorem dX8_word_80 : decode cX8_word 80 = .ok (.bipush 32, 2) := by decide +kernel
theorem dX8_word_82 : decode cX8_word 82 = .ok (.if_icmp .ne 39, 3) := by decide +kernel
theorem dX8_word_85 : decode cX8_word 85 = .ok (.iload 5, 2) := by decide +kernel
theorem dX8_word_87 : decode cX8_word 87 = .ok (.iload 4, 2) := by decide +kernel
theorem dX8_word_89 : decode cX8_word 89 = .ok (.isub, 1) := by decide +kernel
theorem dX8_word_90 : decode cX8_word 90 = .ok (.aload_n 0, 1) := by decide +kernel
theorem dX8_word_91 : decode cX8_word 91 = .ok (.getfield 25, 3) := by decide +kernel
theorem dX8_word_94 : decode cX8_word 94 = .ok (.iload_n 2, 1) := by decide +kernel
theorem dX8_word_95 : decode cX8_word 95 = .ok (.isub, 1) := by decide +kernel
theorem dX8_word_96 : decode cX8_word 96 = .ok (.if_icmp .ne 16, 3) := by decide +kernel
theorem dX8_word_99 : decode cX8_word 99 = .ok (.aload_n 0, 1) := by decide +kernel
theorem dX8_word_100 : decode cX8_word 100 = .ok (.aload_n 1, 1) := by decide +kernel
theorem dX8_word_101 : decode cX8_word 101 = .ok (.iload 4, 2) := by decide +kernel
theorem dX8_word_103 : decode cX8_word 103 = .ok (.iload_n 2, 1) := by decide +kernel
theorem dX8_word_104 : decode cX8_word 104 = .ok (.invokevirtual 62, 3) := by decide +kernel
theorem dX8_word_107 : decode cX8_word 107 = .ok (.ifCond .eq 5, 3) := by decide +kernel
theorem dX8_word_110 : decode cX8_word 110 = .ok (.iload_n 3, 1) := by decide +kernel
theorem dX8_word_111 : decode cX8_word 111 = .ok (.ireturn, 1) := by decide +kernel
theorem dX8_word_112 : decode cX8_word 112 = .ok (.iinc 3 1, 3) := by decide +kernel
theorem dX8_word_115 : decode cX8_word 115 = .ok (.iload 5, 2) := by decide +kernel
theorem dX8_word_117 : decode cX8_word 117 = .ok (.iconst 1, 1) := by decide +kernel
theorem dX8_word_118 : decode cX8_word 118 = .ok (.iadd, 1) := by decide +kernel
theorem dX8_word_119 : decode cX8_word 119 = .ok (.istore 4, 2) := by decide +kernel
theorem dX8_word_121 : decode cX8_word 121 = .ok (.iinc 5 1, 3) := by decide +kernel
theorem dX8_word_124 : decode cX8_word 124 = .ok (.goto (-59), 3) := by decide +kernel
theorem dX8_word_127 : decode cX8_word 127 = .ok (.aload_n 0, 1) := by decide +kernel
theorem dX8_word_128 : decode cX8_word 128 = .ok (.iconst 1, 1) := by decide +kernel
theorem dX8_word_129 : decode cX8_word 129 = .ok (.iload_n 2, 1) := by decide +kernel
theorem dX8_word_130 : decode cX8_word 130 = .ok (.invokevirtual 43, 3) := by decide +kernel
theorem dX8_word_133 : decode cX8_word 133 = .ok (.pop, 1) := by decide +kernel
theorem dX8_word_134 : decode cX8_word 134 = .ok (.iconst (-1), 1) := by decide +kernel
theorem dX8_word_135 : decode cX8_word 135 = .ok (.ireturn, 1) := by decide +kernel
theorem dX0_tells_0 : decode cX0_tells 0 = .ok (.iconst 0, 1) := by decide +kernel
theorem dX0_tells_1 : decode cX0_tells 1 = .ok (.istore_n 2, 1) := by decide +kernel
theorem dX0_tells_2 : decode cX0_tells 2 = .ok (.iload_n 2, 1) := by decide +kernel
theorem dX0_tells_3 : decode cX0_tells 3 = .ok (.aload_n 0, 1) := by decide +kernel
theorem dX0_tells_4 : decode cX0_tells 4 = .ok (.getfield 24, 3) := by decide +kernel
theorem dX0_tells_7 : decode cX0_tells 7 = .ok (.if_icmp .ge 21, 3) := by decide +kernel
theorem dX0_tells_10 : decode cX0_tells 10 = .ok (.aload_n 0, 1) := by decide +kernel
theorem dX0_tells_11 : decode cX0_tells 11 = .ok (.getfield 9, 3) := by decide +kernel
theorem dX0_tells_14 : decode cX0_tells 14 = .ok (.iload_n 2, 1) := by decide +kernel
theorem dX0_tells_15 : decode cX0_tells 15 = .ok (.iaload, 1) := by decide +kernel
theorem dX0_tells_16 : decode cX0_tells 16 = .ok (.iload_n 1, 1) := by decide +kernel
theorem dX0_tells_17 : decode cX0_tells 17 = .ok (.if_icmp .ne 5, 3) := by decide +kernel
theorem dX0_tells_20 : decode cX0_tells 20 = .ok (.iconst 1, 1) := by decide +kernel
theorem dX0_tells_21 : decode cX0_tells 21 = .ok (.ireturn, 1) := by decide +kernel
theorem dX0_tells_22 : decode cX0_tells 22 = .ok (.iinc 2 1, 3) := by decide +kernel
theorem dX0_tells_25 : decode cX0_tells 25 = .ok (.goto (-23), 3) := by decide +kernel
theorem dX0_tells_28 : decode cX0_tells 28 = .ok (.iconst 0, 1) := by decide +kernel
theorem dX0_tells_29 : decode cX0_tells 29 = .ok (.ireturn, 1) := by decide +kernel
theorem dX8_sees_0 : decode cX8_sees 0 = .ok (.aload_n 0, 1) := by decide +kernel
theorem dX8_sees_1 : decode cX8_sees 1 = .ok (.invokevirtual 31, 3) := by decide +kernel
theorem dX8_sees_4 : decode cX8_sees 4 = .ok (.aload_n 0, 1) := by decide +kernel
theorem dX8_sees_5 : decode cX8_sees 5 = .ok (.getfield 22, 3) := by decide +kernel
theorem dX8_sees_8 : decode cX8_sees 8 = .ok (.if_icmp .ge 20, 3) := by decide +kernel
theorem dX8_sees_11 : decode cX8_sees 11 = .ok (.aload_n 0, 1) := by decide +kernel
theorem dX8_sees_12 : decode cX8_sees 12 = .ok (.getfield 9, 3) := by decide +kernel
theorem dX8_sees_15 : decode cX8_sees 15 = .ok (.aload_n 0, 1) := by decide +kernel
theorem dX8_sees_16 : decode cX8_sees 16 = .ok (.getfield 25, 3) := by decide +kernel
theorem dX8_sees_19 : decode cX8_sees 19 = .ok (.iaload, 1) := by decide +kernel
theorem dX8_sees_20 : decode cX8_sees 20 = .ok (.iload_n 1, 1) := by decide +kernel
theorem dX8_sees_21 : decode cX8_sees 21 = .ok (.if_icmp .ne 7, 3) := by decide +kernel
theorem dX8_sees_24 : decode cX8_sees 24 = .ok (.iconst 1, 1) := by decide +kernel
theorem dX8_sees_25 : decode cX8_sees 25 = .ok (.goto 4, 3) := by decide +kernel
theorem dX8_sees_28 : decode cX8_sees 28 = .ok (.iconst 0, 1) := by decide +kernel
theorem dX8_sees_29 : decode cX8_sees 29 = .ok (.ireturn, 1) := by decide +kernel
theorem dX8_isDigit_0 : decode cX8_isDigit 0 = .ok (.iload_n 0, 1) := by decide +kernel
theorem dX8_isDigit_1 : decode cX8_isDigit 1 = .ok (.bipush 48, 2) := by decide +kernel
theorem dX8_isDigit_3 : decode cX8_isDigit 3 = .ok (.if_icmp .lt 13, 3) := by decide +kernel
theorem dX8_isDigit_6 : decode cX8_isDigit 6 = .ok (.iload_n 0, 1) := by decide +kernel
theorem dX8_isDigit_7 : decode cX8_isDigit 7 = .ok (.bipush 57, 2) := by decide +kernel
theorem dX8_isDigit_9 : decode cX8_isDigit 9 = .ok (.if_icmp .gt 7, 3) := by decide +kernel
theorem dX8_isDigit_12 : decode cX8_isDigit 12 = .ok (.iconst 1, 1) := by decide +kernel
theorem dX8_isDigit_13 : decode cX8_isDigit 13 = .ok (.goto 4, 3) := by decide +kernel
theorem dX8_isDigit_16 : decode cX8_isDigit 16 = .ok (.iconst 0, 1) := by decide +kernel
theorem dX8_isDigit_17 : decode cX8_isDigit 17 = .ok (.ireturn, 1) := by decide +kernel
theorem dX4_readUnit_0 : decode cX4_readUnit 0 = .ok (.aload_n 1, 1) := by decide +kernel
theorem dX4_readUnit_1 : decode cX4_readUnit 1 = .ok (.invokevirtual 41, 3) := by decide +kernel
theorem dX4_readUnit_4 : decode cX4_readUnit 4 = .ok (.istore_n 3, 1) := by decide +kernel
theorem dX4_readUnit_5 : decode cX4_readUnit 5 = .ok (.aload_n 1, 1) := by decide +kernel
theorem dX4_readUnit_6 : decode cX4_readUnit 6 = .ok (.invokevirtual 63, 3) := by decide +kernel
theorem dX4_readUnit_9 : decode cX4_readUnit 9 = .ok (.ifCond .eq 34, 3) := by decide +kernel
theorem dX4_readUnit_12 : decode cX4_readUnit 12 = .ok (.aload_n 1, 1) := by decide +kernel
theorem dX4_readUnit_13 : decode cX4_readUnit 13 = .ok (.iconst 0, 1) := by decide +kernel
theorem dX4_readUnit_14 : decode cX4_readUnit 14 = .ok (.sipush 999, 3) := by decide +kernel
theorem dX4_readUnit_17 : decode cX4_readUnit 17 = .ok (.invokevirtual 66, 3) := by decide +kernel
theorem dX4_readUnit_20 : decode cX4_readUnit 20 = .ok (.istore 4, 2) := by decide +kernel
theorem dX4_readUnit_22 : decode cX4_readUnit 22 = .ok (.iload 4, 2) := by decide +kernel
theorem dX4_readUnit_24 : decode cX4_readUnit 24 = .ok (.iconst (-1), 1) := by decide +kernel
theorem dX4_readUnit_25 : decode cX4_readUnit 25 = .ok (.if_icmp .eq 16, 3) := by decide +kernel
theorem dX4_readUnit_28 : decode cX4_readUnit 28 = .ok (.aload_n 0, 1) := by decide +kernel
theorem dX4_readUnit_29 : decode cX4_readUnit 29 = .ok (.iload 4, 2) := by decide +kernel
theorem dX4_readUnit_31 : decode cX4_readUnit 31 = .ok (.invokevirtual 56, 3) := by decide +kernel
theorem dX4_readUnit_34 : decode cX4_readUnit 34 = .ok (.ifCond .eq 7, 3) := by decide +kernel
theorem dX4_readUnit_37 : decode cX4_readUnit 37 = .ok (.iconst 1, 1) := by decide +kernel
theorem dX4_readUnit_38 : decode cX4_readUnit 38 = .ok (.goto 4, 3) := by decide +kernel
theorem dX4_readUnit_41 : decode cX4_readUnit 41 = .ok (.iconst 0, 1) := by decide +kernel
theorem dX4_readUnit_42 : decode cX4_readUnit 42 = .ok (.ireturn, 1) := by decide +kernel
theorem dX4_readUnit_43 : decode cX4_readUnit 43 = .ok (.aload_n 1, 1) := by decide +kernel
theorem dX4_readUnit_44 : decode cX4_readUnit 44 = .ok (.bipush 40, 2) := by decide +kernel
theorem dX4_readUnit_46 : decode cX4_readUnit 46 = .ok (.invokevirtual 52, 3) := by decide +kernel
theorem dX4_readUnit_49 : decode cX4_readUnit 49 = .ok (.ifCond .eq 44, 3) := by decide +kernel
theorem dX4_readUnit_52 : decode cX4_readUnit 52 = .ok (.iload_n 2, 1) := by decide +kernel
theorem dX4_readUnit_53 : decode cX4_readUnit 53 = .ok (.bipush 6, 2) := by decide +kernel
theorem dX4_readUnit_55 : decode cX4_readUnit 55 = .ok (.if_icmp .ge 31, 3) := by decide +kernel
theorem dX4_readUnit_58 : decode cX4_readUnit 58 = .ok (.aload_n 0, 1) := by decide +kernel
theorem dX4_readUnit_59 : decode cX4_readUnit 59 = .ok (.aload_n 1, 1) := by decide +kernel
theorem dX4_readUnit_60 : decode cX4_readUnit 60 = .ok (.iload_n 2, 1) := by decide +kernel
theorem dX4_readUnit_61 : decode cX4_readUnit 61 = .ok (.iconst 1, 1) := by decide +kernel
theorem dX4_readUnit_62 : decode cX4_readUnit 62 = .ok (.iadd, 1) := by decide +kernel
theorem dX4_readUnit_63 : decode cX4_readUnit 63 = .ok (.invokevirtual 31, 3) := by decide +kernel
theorem dX4_readUnit_66 : decode cX4_readUnit 66 = .ok (.ifCond .eq 16, 3) := by decide +kernel
theorem dX4_readUnit_69 : decode cX4_readUnit 69 = .ok (.aload_n 1, 1) := by decide +kernel
theorem dX4_readUnit_70 : decode cX4_readUnit 70 = .ok (.bipush 41, 2) := by decide +kernel
theorem dX4_readUnit_72 : decode cX4_readUnit 72 = .ok (.invokevirtual 70, 3) := by decide +kernel
theorem dX4_readUnit_75 : decode cX4_readUnit 75 = .ok (.ifCond .eq 7, 3) := by decide +kernel
theorem dX4_readUnit_78 : decode cX4_readUnit 78 = .ok (.iconst 1, 1) := by decide +kernel
theorem dX4_readUnit_79 : decode cX4_readUnit 79 = .ok (.goto 13, 3) := by decide +kernel
theorem dX4_readUnit_82 : decode cX4_readUnit 82 = .ok (.iconst 0, 1) := by decide +kernel
theorem dX4_readUnit_83 : decode cX4_readUnit 83 = .ok (.goto 9, 3) := by decide +kernel
theorem dX4_readUnit_86 : decode cX4_readUnit 86 = .ok (.aload_n 1, 1) := by decide +kernel
theorem dX4_readUnit_87 : decode cX4_readUnit 87 = .ok (.iconst 3, 1) := by decide +kernel
theorem dX4_readUnit_88 : decode cX4_readUnit 88 = .ok (.iload_n 3, 1) := by decide +kernel
theorem dX4_readUnit_89 : decode cX4_readUnit 89 = .ok (.invokevirtual 45, 3) := by decide +kernel
theorem dX4_readUnit_92 : decode cX4_readUnit 92 = .ok (.ireturn, 1) := by decide +kernel
theorem dX4_readUnit_93 : decode cX4_readUnit 93 = .ok (.aload_n 1, 1) := by decide +kernel
theorem dX4_readUnit_94 : decode cX4_readUnit 94 = .ok (.ldc 73, 2) := by decide +kernel
theorem dX4_readUnit_96 : decode cX4_readUnit 96 = .ok (.invokevirtual 75, 3) := by decide +kernel
theorem dX4_readUnit_99 : decode cX4_readUnit 99 = .ok (.istore 4, 2) := by decide +kernel
theorem dX4_readUnit_101 : decode cX4_readUnit 101 = .ok (.iload 4, 2) := by decide +kernel
theorem dX4_readUnit_103 : decode cX4_readUnit 103 = .ok (.iconst (-1), 1) := by decide +kernel
theorem dX4_readUnit_104 : decode cX4_readUnit 104 = .ok (.if_icmp .ne 5, 3) := by decide +kernel
theorem dX4_readUnit_107 : decode cX4_readUnit 107 = .ok (.iconst 0, 1) := by decide +kernel
theorem dX4_readUnit_108 : decode cX4_readUnit 108 = .ok (.ireturn, 1) := by decide +kernel
theorem dX4_readUnit_109 : decode cX4_readUnit 109 = .ok (.iload 4, 2) := by decide +kernel
theorem dX4_readUnit_111 : decode cX4_readUnit 111 = .ok (.bipush 8, 2) := by decide +kernel
theorem dX4_readUnit_113 : decode cX4_readUnit 113 = .ok (.if_icmp .ge 14, 3) := by decide +kernel
theorem dX4_readUnit_116 : decode cX4_readUnit 116 = .ok (.aload_n 0, 1) := by decide +kernel
theorem dX4_readUnit_117 : decode cX4_readUnit 117 = .ok (.sipush 1000, 3) := by decide +kernel
theorem dX4_readUnit_120 : decode cX4_readUnit 120 = .ok (.iload 4, 2) := by decide +kernel
theorem dX4_readUnit_122 : decode cX4_readUnit 122 = .ok (.iadd, 1) := by decide +kernel
theorem dX4_readUnit_123 : decode cX4_readUnit 123 = .ok (.invokevirtual 56, 3) := by decide +kernel
theorem dX4_readUnit_126 : decode cX4_readUnit 126 = .ok (.ireturn, 1) := by decide +kernel
theorem dX4_readUnit_127 : decode cX4_readUnit 127 = .ok (.iload_n 2, 1) := by decide +kernel
theorem dX4_readUnit_128 : decode cX4_readUnit 128 = .ok (.bipush 6, 2) := by decide +kernel
theorem dX4_readUnit_130 : decode cX4_readUnit 130 = .ok (.if_icmp .lt 10, 3) := by decide +kernel
theorem dX4_readUnit_133 : decode cX4_readUnit 133 = .ok (.aload_n 1, 1) := by decide +kernel
theorem dX4_readUnit_134 : decode cX4_readUnit 134 = .ok (.iconst 3, 1) := by decide +kernel
theorem dX4_readUnit_135 : decode cX4_readUnit 135 = .ok (.iload_n 3, 1) := by decide +kernel
theorem dX4_readUnit_136 : decode cX4_readUnit 136 = .ok (.invokevirtual 45, 3) := by decide +kernel
theorem dX4_readUnit_139 : decode cX4_readUnit 139 = .ok (.ireturn, 1) := by decide +kernel
theorem dX4_readUnit_140 : decode cX4_readUnit 140 = .ok (.aload_n 1, 1) := by decide +kernel
theorem dX4_readUnit_141 : decode cX4_readUnit 141 = .ok (.bipush 91, 2) := by decide +kernel
theorem dX4_readUnit_143 : decode cX4_readUnit 143 = .ok (.invokevirtual 70, 3) := by decide +kernel
theorem dX4_readUnit_146 : decode cX4_readUnit 146 = .ok (.ifCond .eq 70, 3) := by decide +kernel
theorem dX4_readUnit_149 : decode cX4_readUnit 149 = .ok (.aload_n 0, 1) := by decide +kernel
theorem dX4_readUnit_150 : decode cX4_readUnit 150 = .ok (.aload_n 1, 1) := by decide +kernel
theorem dX4_readUnit_151 : decode cX4_readUnit 151 = .ok (.iload_n 2, 1) := by decide +kernel
theorem dX4_readUnit_152 : decode cX4_readUnit 152 = .ok (.iconst 1, 1) := by decide +kernel
theorem dX4_readUnit_153 : decode cX4_readUnit 153 = .ok (.iadd, 1) := by decide +kernel
theorem dX4_readUnit_154 : decode cX4_readUnit 154 = .ok (.invokevirtual 31, 3) := by decide +kernel
theorem dX4_readUnit_157 : decode cX4_readUnit 157 = .ok (.ifCond .eq 59, 3) := by decide +kernel
theorem dX4_readUnit_160 : decode cX4_readUnit 160 = .ok (.aload_n 1, 1) := by decide +kernel
theorem dX4_readUnit_161 : decode cX4_readUnit 161 = .ok (.bipush 44, 2) := by decide +kernel
theorem dX4_readUnit_163 : decode cX4_readUnit 163 = .ok (.invokevirtual 70, 3) := by decide +kernel
theorem dX4_readUnit_166 : decode cX4_readUnit 166 = .ok (.ifCond .eq 50, 3) := by decide +kernel
theorem dX4_readUnit_169 : decode cX4_readUnit 169 = .ok (.aload_n 0, 1) := by decide +kernel
theorem dX4_readUnit_170 : decode cX4_readUnit 170 = .ok (.aload_n 1, 1) := by decide +kernel
theorem dX4_readUnit_171 : decode cX4_readUnit 171 = .ok (.iload_n 2, 1) := by decide +kernel
theorem dX4_readUnit_172 : decode cX4_readUnit 172 = .ok (.iconst 1, 1) := by decide +kernel
theorem dX4_readUnit_173 : decode cX4_readUnit 173 = .ok (.iadd, 1) := by decide +kernel
theorem dX4_readUnit_174 : decode cX4_readUnit 174 = .ok (.invokevirtual 31, 3) := by decide +kernel
theorem dX4_readUnit_177 : decode cX4_readUnit 177 = .ok (.ifCond .eq 39, 3) := by decide +kernel
theorem dX4_readUnit_180 : decode cX4_readUnit 180 = .ok (.aload_n 1, 1) := by decide +kernel
theorem dX4_readUnit_181 : decode cX4_readUnit 181 = .ok (.bipush 93, 2) := by decide +kernel
theorem dX4_readUnit_183 : decode cX4_readUnit 183 = .ok (.invokevirtual 70, 3) := by decide +kernel
theorem dX4_readUnit_186 : decode cX4_readUnit 186 = .ok (.ifCond .eq 30, 3) := by decide +kernel
theorem dX4_readUnit_189 : decode cX4_readUnit 189 = .ok (.aload_n 0, 1) := by decide +kernel
theorem dX4_readUnit_190 : decode cX4_readUnit 190 = .ok (.iload 4, 2) := by decide +kernel
theorem dX4_readUnit_192 : decode cX4_readUnit 192 = .ok (.bipush 8, 2) := by decide +kernel
theorem dX4_readUnit_194 : decode cX4_readUnit 194 = .ok (.if_icmp .ne 9, 3) := by decide +kernel
theorem dX4_readUnit_197 : decode cX4_readUnit 197 = .ok (.sipush 1105, 3) := by decide +kernel
theorem dX4_readUnit_200 : decode cX4_readUnit 200 = .ok (.goto 6, 3) := by decide +kernel
theorem dX4_readUnit_203 : decode cX4_readUnit 203 = .ok (.sipush 1106, 3) := by decide +kernel
theorem dX4_readUnit_206 : decode cX4_readUnit 206 = .ok (.invokevirtual 56, 3) := by decide +kernel
theorem dX4_readUnit_209 : decode cX4_readUnit 209 = .ok (.ifCond .eq 7, 3) := by decide +kernel
theorem dX4_readUnit_212 : decode cX4_readUnit 212 = .ok (.iconst 1, 1) := by decide +kernel
theorem dX4_readUnit_213 : decode cX4_readUnit 213 = .ok (.goto 4, 3) := by decide +kernel
theorem dX4_readUnit_216 : decode cX4_readUnit 216 = .ok (.iconst 0, 1) := by decide +kernel
theorem dX4_readUnit_217 : decode cX4_readUnit 217 = .ok (.ireturn, 1) := by decide +kernel
theorem dX8_takes_0 : decode cX8_takes 0 = .ok (.aload_n 0, 1) := by decide +kernel
theorem dX8_takes_1 : decode cX8_takes 1 = .ok (.invokevirtual 31, 3) := by decide +kernel
theorem dX8_takes_4 : decode cX8_takes 4 = .ok (.aload_n 0, 1) := by decide +kernel
theorem dX8_takes_5 : decode cX8_takes 5 = .ok (.getfield 22, 3) := by decide +kernel
theorem dX8_takes_8 : decode cX8_takes 8 = .ok (.if_icmp .ge 16, 3) := by decide +kernel
theorem dX8_takes_11 : decode cX8_takes 11 = .ok (.aload_n 0, 1) := by decide +kernel
theorem dX8_takes_12 : decode cX8_takes 12 = .ok (.getfield 9, 3) := by decide +kernel
theorem dX8_takes_15 : decode cX8_takes 15 = .ok (.aload_n 0, 1) := by decide +kernel
theorem dX8_takes_16 : decode cX8_takes 16 = .ok (.getfield 25, 3) := by decide +kernel
theorem dX8_takes_19 : decode cX8_takes 19 = .ok (.iaload, 1) := by decide +kernel
theorem dX8_takes_20 : decode cX8_takes 20 = .ok (.iload_n 1, 1) := by decide +kernel
theorem dX8_takes_21 : decode cX8_takes 21 = .ok (.if_icmp .eq 5, 3) := by decide +kernel
theorem dX8_takes_24 : decode cX8_takes 24 = .ok (.iconst 0, 1) := by decide +kernel
theorem dX8_takes_25 : decode cX8_takes 25 = .ok (.ireturn, 1) := by decide +kernel
theorem dX8_takes_26 : decode cX8_takes 26 = .ok (.aload_n 0, 1) := by decide +kernel
theorem dX8_takes_27 : decode cX8_takes 27 = .ok (.dup, 1) := by decide +kernel
theorem dX8_takes_28 : decode cX8_takes 28 = .ok (.getfield 25, 3) := by decide +kernel
theorem dX8_takes_31 : decode cX8_takes 31 = .ok (.iconst 1, 1) := by decide +kernel
theorem dX8_takes_32 : decode cX8_takes 32 = .ok (.iadd, 1) := by decide +kernel
theorem dX8_takes_33 : decode cX8_takes 33 = .ok (.putfield 25, 3) := by decide +kernel
theorem dX8_takes_36 : decode cX8_takes 36 = .ok (.iconst 1, 1) := by decide +kernel
theorem dX8_takes_37 : decode cX8_takes 37 = .ok (.ireturn, 1) := by decide +kernel
theorem dX4_joined_0 : decode cX4_joined 0 = .ok (.iload_n 0, 1) := by decide +kernel
theorem dX4_joined_1 : decode cX4_joined 1 = .ok (.tableswitch 86 1100 1105 #[39, 43, 47, 51, 63, 75], 39) := by decide +kernel
theorem dX4_joined_40 : decode cX4_joined 40 = .ok (.iload_n 1, 1) := by decide +kernel
theorem dX4_joined_41 : decode cX4_joined 41 = .ok (.iload_n 2, 1) := by decide +kernel
theorem dX4_joined_42 : decode cX4_joined 42 = .ok (.iadd, 1) := by decide +kernel
theorem dX4_joined_43 : decode cX4_joined 43 = .ok (.ireturn, 1) := by decide +kernel
theorem dX4_joined_44 : decode cX4_joined 44 = .ok (.iload_n 1, 1) := by decide +kernel
theorem dX4_joined_45 : decode cX4_joined 45 = .ok (.iload_n 2, 1) := by decide +kernel
theorem dX4_joined_46 : decode cX4_joined 46 = .ok (.isub, 1) := by decide +kernel
theorem dX4_joined_47 : decode cX4_joined 47 = .ok (.ireturn, 1) := by decide +kernel
theorem dX4_joined_48 : decode cX4_joined 48 = .ok (.iload_n 1, 1) := by decide +kernel
theorem dX4_joined_49 : decode cX4_joined 49 = .ok (.iload_n 2, 1) := by decide +kernel
theorem dX4_joined_50 : decode cX4_joined 50 = .ok (.imul, 1) := by decide +kernel
theorem dX4_joined_51 : decode cX4_joined 51 = .ok (.ireturn, 1) := by decide +kernel
theorem dX4_joined_52 : decode cX4_joined 52 = .ok (.iload_n 2, 1) := by decide +kernel
theorem dX4_joined_53 : decode cX4_joined 53 = .ok (.ifCond .ne 7, 3) := by decide +kernel
theorem dX4_joined_56 : decode cX4_joined 56 = .ok (.iconst 0, 1) := by decide +kernel
theorem dX4_joined_57 : decode cX4_joined 57 = .ok (.goto 6, 3) := by decide +kernel
theorem dX4_joined_60 : decode cX4_joined 60 = .ok (.iload_n 1, 1) := by decide +kernel
theorem dX4_joined_61 : decode cX4_joined 61 = .ok (.iload_n 2, 1) := by decide +kernel
theorem dX4_joined_62 : decode cX4_joined 62 = .ok (.idiv, 1) := by decide +kernel
theorem dX4_joined_63 : decode cX4_joined 63 = .ok (.ireturn, 1) := by decide +kernel
theorem dX4_joined_64 : decode cX4_joined 64 = .ok (.iload_n 2, 1) := by decide +kernel
theorem dX4_joined_65 : decode cX4_joined 65 = .ok (.ifCond .ne 7, 3) := by decide +kernel
theorem dX4_joined_68 : decode cX4_joined 68 = .ok (.iconst 0, 1) := by decide +kernel
theorem dX4_joined_69 : decode cX4_joined 69 = .ok (.goto 6, 3) := by decide +kernel
theorem dX4_joined_72 : decode cX4_joined 72 = .ok (.iload_n 1, 1) := by decide +kernel
theorem dX4_joined_73 : decode cX4_joined 73 = .ok (.iload_n 2, 1) := by decide +kernel
theorem dX4_joined_74 : decode cX4_joined 74 = .ok (.irem, 1) := by decide +kernel
theorem dX4_joined_75 : decode cX4_joined 75 = .ok (.ireturn, 1) := by decide +kernel
theorem dX4_joined_76 : decode cX4_joined 76 = .ok (.iload_n 1, 1) := by decide +kernel
theorem dX4_joined_77 : decode cX4_joined 77 = .ok (.iload_n 2, 1) := by decide +kernel
theorem dX4_joined_78 : decode cX4_joined 78 = .ok (.if_icmp .ge 7, 3) := by decide +kernel
theorem dX4_joined_81 : decode cX4_joined 81 = .ok (.iload_n 1, 1) := by decide +kernel
theorem dX4_joined_82 : decode cX4_joined 82 = .ok (.goto 4, 3) := by decide +kernel
theorem dX4_joined_85 : decode cX4_joined 85 = .ok (.iload_n 2, 1) := by decide +kernel
theorem dX4_joined_86 : decode cX4_joined 86 = .ok (.ireturn, 1) := by decide +kernel
theorem dX4_joined_87 : decode cX4_joined 87 = .ok (.iload_n 1, 1) := by decide +kernel
theorem dX4_joined_88 : decode cX4_joined 88 = .ok (.iload_n 2, 1) := by decide +kernel
theorem dX4_joined_89 : decode cX4_joined 89 = .ok (.if_icmp .le 7, 3) := by decide +kernel
theorem dX4_joined_92 : decode cX4_joined 92 = .ok (.iload_n 1, 1) := by decide +kernel
theorem dX4_joined_93 : decode cX4_joined 93 = .ok (.goto 4, 3) := by decide +kernel
theorem dX4_joined_96 : decode cX4_joined 96 = .ok (.iload_n 2, 1) := by decide +kernel
theorem dX4_joined_97 : decode cX4_joined 97 = .ok (.ireturn, 1) := by decide +kernel
theorem dX4_valueFor_0 : decode cX4_valueFor 0 = .ok (.iconst 0, 1) := by decide +kernel
theorem dX4_valueFor_1 : decode cX4_valueFor 1 = .ok (.istore_n 2, 1) := by decide +kernel
theorem dX4_valueFor_2 : decode cX4_valueFor 2 = .ok (.iconst 0, 1) := by decide +kernel
theorem dX4_valueFor_3 : decode cX4_valueFor 3 = .ok (.istore_n 3, 1) := by decide +kernel
theorem dX4_valueFor_4 : decode cX4_valueFor 4 = .ok (.iload_n 3, 1) := by decide +kernel
theorem dX4_valueFor_5 : decode cX4_valueFor 5 = .ok (.aload_n 0, 1) := by decide +kernel
theorem dX4_valueFor_6 : decode cX4_valueFor 6 = .ok (.getfield 21, 3) := by decide +kernel
theorem dX4_valueFor_9 : decode cX4_valueFor 9 = .ok (.if_icmp .ge 106, 3) := by decide +kernel
theorem dX4_valueFor_12 : decode cX4_valueFor 12 = .ok (.aload_n 0, 1) := by decide +kernel
theorem dX4_valueFor_13 : decode cX4_valueFor 13 = .ok (.getfield 9, 3) := by decide +kernel
theorem dX4_valueFor_16 : decode cX4_valueFor 16 = .ok (.iload_n 3, 1) := by decide +kernel
theorem dX4_valueFor_17 : decode cX4_valueFor 17 = .ok (.iaload, 1) := by decide +kernel
theorem dX4_valueFor_18 : decode cX4_valueFor 18 = .ok (.istore 4, 2) := by decide +kernel
theorem dX4_valueFor_20 : decode cX4_valueFor 20 = .ok (.iload 4, 2) := by decide +kernel
theorem dX4_valueFor_22 : decode cX4_valueFor 22 = .ok (.sipush 1100, 3) := by decide +kernel
theorem dX4_valueFor_25 : decode cX4_valueFor 25 = .ok (.if_icmp .ge 47, 3) := by decide +kernel
theorem dX4_valueFor_28 : decode cX4_valueFor 28 = .ok (.iload_n 2, 1) := by decide +kernel
theorem dX4_valueFor_29 : decode cX4_valueFor 29 = .ok (.aload_n 0, 1) := by decide +kernel
theorem dX4_valueFor_30 : decode cX4_valueFor 30 = .ok (.getfield 15, 3) := by decide +kernel
theorem dX4_valueFor_33 : decode cX4_valueFor 33 = .ok (.arraylength, 1) := by decide +kernel
theorem dX4_valueFor_34 : decode cX4_valueFor 34 = .ok (.if_icmp .lt 5, 3) := by decide +kernel
theorem dX4_valueFor_37 : decode cX4_valueFor 37 = .ok (.iconst 0, 1) := by decide +kernel
theorem dX4_valueFor_38 : decode cX4_valueFor 38 = .ok (.ireturn, 1) := by decide +kernel
theorem dX4_valueFor_39 : decode cX4_valueFor 39 = .ok (.aload_n 0, 1) := by decide +kernel
theorem dX4_valueFor_40 : decode cX4_valueFor 40 = .ok (.getfield 15, 3) := by decide +kernel
theorem dX4_valueFor_43 : decode cX4_valueFor 43 = .ok (.iload_n 2, 1) := by decide +kernel
theorem dX4_valueFor_44 : decode cX4_valueFor 44 = .ok (.iload 4, 2) := by decide +kernel
theorem dX4_valueFor_46 : decode cX4_valueFor 46 = .ok (.sipush 1000, 3) := by decide +kernel
theorem dX4_valueFor_49 : decode cX4_valueFor 49 = .ok (.if_icmp .ge 8, 3) := by decide +kernel
theorem dX4_valueFor_52 : decode cX4_valueFor 52 = .ok (.iload 4, 2) := by decide +kernel
theorem dX4_valueFor_54 : decode cX4_valueFor 54 = .ok (.goto 11, 3) := by decide +kernel
theorem dX4_valueFor_57 : decode cX4_valueFor 57 = .ok (.aload_n 1, 1) := by decide +kernel
theorem dX4_valueFor_58 : decode cX4_valueFor 58 = .ok (.iload 4, 2) := by decide +kernel
theorem dX4_valueFor_60 : decode cX4_valueFor 60 = .ok (.sipush 1000, 3) := by decide +kernel
theorem dX4_valueFor_63 : decode cX4_valueFor 63 = .ok (.isub, 1) := by decide +kernel
theorem dX4_valueFor_64 : decode cX4_valueFor 64 = .ok (.iaload, 1) := by decide +kernel
theorem dX4_valueFor_65 : decode cX4_valueFor 65 = .ok (.iastore, 1) := by decide +kernel
theorem dX4_valueFor_66 : decode cX4_valueFor 66 = .ok (.iinc 2 1, 3) := by decide +kernel
theorem dX4_valueFor_69 : decode cX4_valueFor 69 = .ok (.goto 40, 3) := by decide +kernel
theorem dX4_valueFor_72 : decode cX4_valueFor 72 = .ok (.iload_n 2, 1) := by decide +kernel
theorem dX4_valueFor_73 : decode cX4_valueFor 73 = .ok (.iconst 2, 1) := by decide +kernel
theorem dX4_valueFor_74 : decode cX4_valueFor 74 = .ok (.if_icmp .ge 5, 3) := by decide +kernel
theorem dX4_valueFor_77 : decode cX4_valueFor 77 = .ok (.iconst 0, 1) := by decide +kernel
theorem dX4_valueFor_78 : decode cX4_valueFor 78 = .ok (.ireturn, 1) := by decide +kernel
theorem dX4_valueFor_79 : decode cX4_valueFor 79 = .ok (.iinc 2 (-1), 3) := by decide +kernel
theorem dX4_valueFor_82 : decode cX4_valueFor 82 = .ok (.aload_n 0, 1) := by decide +kernel
theorem dX4_valueFor_83 : decode cX4_valueFor 83 = .ok (.getfield 15, 3) := by decide +kernel
theorem dX4_valueFor_86 : decode cX4_valueFor 86 = .ok (.iload_n 2, 1) := by decide +kernel
theorem dX4_valueFor_87 : decode cX4_valueFor 87 = .ok (.iconst 1, 1) := by decide +kernel
theorem dX4_valueFor_88 : decode cX4_valueFor 88 = .ok (.isub, 1) := by decide +kernel
theorem dX4_valueFor_89 : decode cX4_valueFor 89 = .ok (.iload 4, 2) := by decide +kernel
theorem dX4_valueFor_91 : decode cX4_valueFor 91 = .ok (.aload_n 0, 1) := by decide +kernel
theorem dX4_valueFor_92 : decode cX4_valueFor 92 = .ok (.getfield 15, 3) := by decide +kernel
theorem dX4_valueFor_95 : decode cX4_valueFor 95 = .ok (.iload_n 2, 1) := by decide +kernel
theorem dX4_valueFor_96 : decode cX4_valueFor 96 = .ok (.iconst 1, 1) := by decide +kernel
theorem dX4_valueFor_97 : decode cX4_valueFor 97 = .ok (.isub, 1) := by decide +kernel
theorem dX4_valueFor_98 : decode cX4_valueFor 98 = .ok (.iaload, 1) := by decide +kernel
theorem dX4_valueFor_99 : decode cX4_valueFor 99 = .ok (.aload_n 0, 1) := by decide +kernel
theorem dX4_valueFor_100 : decode cX4_valueFor 100 = .ok (.getfield 15, 3) := by decide +kernel
theorem dX4_valueFor_103 : decode cX4_valueFor 103 = .ok (.iload_n 2, 1) := by decide +kernel
theorem dX4_valueFor_104 : decode cX4_valueFor 104 = .ok (.iaload, 1) := by decide +kernel
theorem dX4_valueFor_105 : decode cX4_valueFor 105 = .ok (.invokestatic 79, 3) := by decide +kernel
theorem dX4_valueFor_108 : decode cX4_valueFor 108 = .ok (.iastore, 1) := by decide +kernel
theorem dX4_valueFor_109 : decode cX4_valueFor 109 = .ok (.iinc 3 1, 3) := by decide +kernel
theorem dX4_valueFor_112 : decode cX4_valueFor 112 = .ok (.goto (-108), 3) := by decide +kernel
theorem dX4_valueFor_115 : decode cX4_valueFor 115 = .ok (.aload_n 0, 1) := by decide +kernel
theorem dX4_valueFor_116 : decode cX4_valueFor 116 = .ok (.getfield 15, 3) := by decide +kernel
theorem dX4_valueFor_119 : decode cX4_valueFor 119 = .ok (.iconst 0, 1) := by decide +kernel
theorem dX4_valueFor_120 : decode cX4_valueFor 120 = .ok (.iaload, 1) := by decide +kernel
theorem dX4_valueFor_121 : decode cX4_valueFor 121 = .ok (.ireturn, 1) := by decide +kernel
theorem dX8_next_0 : decode cX8_next 0 = .ok (.aload_n 0, 1) := by decide +kernel
theorem dX8_next_1 : decode cX8_next 1 = .ok (.getfield 25, 3) := by decide +kernel
theorem dX8_next_4 : decode cX8_next 4 = .ok (.aload_n 0, 1) := by decide +kernel
theorem dX8_next_5 : decode cX8_next 5 = .ok (.getfield 22, 3) := by decide +kernel
theorem dX8_next_8 : decode cX8_next 8 = .ok (.if_icmp .ge 30, 3) := by decide +kernel
theorem dX8_next_11 : decode cX8_next 11 = .ok (.aload_n 0, 1) := by decide +kernel
theorem dX8_next_12 : decode cX8_next 12 = .ok (.getfield 9, 3) := by decide +kernel
theorem dX8_next_15 : decode cX8_next 15 = .ok (.aload_n 0, 1) := by decide +kernel
theorem dX8_next_16 : decode cX8_next 16 = .ok (.getfield 25, 3) := by decide +kernel
theorem dX8_next_19 : decode cX8_next 19 = .ok (.iaload, 1) := by decide +kernel
theorem dX8_next_20 : decode cX8_next 20 = .ok (.bipush 32, 2) := by decide +kernel
theorem dX8_next_22 : decode cX8_next 22 = .ok (.if_icmp .ne 16, 3) := by decide +kernel
theorem dX8_next_25 : decode cX8_next 25 = .ok (.aload_n 0, 1) := by decide +kernel
theorem dX8_next_26 : decode cX8_next 26 = .ok (.dup, 1) := by decide +kernel
theorem dX8_next_27 : decode cX8_next 27 = .ok (.getfield 25, 3) := by decide +kernel
theorem dX8_next_30 : decode cX8_next 30 = .ok (.iconst 1, 1) := by decide +kernel
theorem dX8_next_31 : decode cX8_next 31 = .ok (.iadd, 1) := by decide +kernel
theorem dX8_next_32 : decode cX8_next 32 = .ok (.putfield 25, 3) := by decide +kernel
theorem dX8_next_35 : decode cX8_next 35 = .ok (.goto (-35), 3) := by decide +kernel
theorem dX8_next_38 : decode cX8_next 38 = .ok (.aload_n 0, 1) := by decide +kernel
theorem dX8_next_39 : decode cX8_next 39 = .ok (.getfield 25, 3) := by decide +kernel
theorem dX8_next_42 : decode cX8_next 42 = .ok (.ireturn, 1) := by decide +kernel
theorem dX7_copyFrom_0 : decode cX7_copyFrom 0 = .ok (.aload_n 0, 1) := by decide +kernel
theorem dX7_copyFrom_1 : decode cX7_copyFrom 1 = .ok (.aload_n 1, 1) := by decide +kernel
theorem dX7_copyFrom_2 : decode cX7_copyFrom 2 = .ok (.getfield 18, 3) := by decide +kernel
theorem dX7_copyFrom_5 : decode cX7_copyFrom 5 = .ok (.putfield 18, 3) := by decide +kernel
theorem dX7_copyFrom_8 : decode cX7_copyFrom 8 = .ok (.iconst 0, 1) := by decide +kernel
theorem dX7_copyFrom_9 : decode cX7_copyFrom 9 = .ok (.istore_n 2, 1) := by decide +kernel
theorem dX7_copyFrom_10 : decode cX7_copyFrom 10 = .ok (.iload_n 2, 1) := by decide +kernel
theorem dX7_copyFrom_11 : decode cX7_copyFrom 11 = .ok (.aload_n 0, 1) := by decide +kernel
theorem dX7_copyFrom_12 : decode cX7_copyFrom 12 = .ok (.getfield 18, 3) := by decide +kernel
theorem dX7_copyFrom_15 : decode cX7_copyFrom 15 = .ok (.if_icmp .ge 24, 3) := by decide +kernel
theorem dX7_copyFrom_18 : decode cX7_copyFrom 18 = .ok (.aload_n 0, 1) := by decide +kernel
theorem dX7_copyFrom_19 : decode cX7_copyFrom 19 = .ok (.getfield 11, 3) := by decide +kernel
theorem dX7_copyFrom_22 : decode cX7_copyFrom 22 = .ok (.iload_n 2, 1) := by decide +kernel
theorem dX7_copyFrom_23 : decode cX7_copyFrom 23 = .ok (.aaload, 1) := by decide +kernel
theorem dX7_copyFrom_24 : decode cX7_copyFrom 24 = .ok (.aload_n 1, 1) := by decide +kernel
theorem dX7_copyFrom_25 : decode cX7_copyFrom 25 = .ok (.getfield 11, 3) := by decide +kernel
theorem dX7_copyFrom_28 : decode cX7_copyFrom 28 = .ok (.iload_n 2, 1) := by decide +kernel
theorem dX7_copyFrom_29 : decode cX7_copyFrom 29 = .ok (.aaload, 1) := by decide +kernel
theorem dX7_copyFrom_30 : decode cX7_copyFrom 30 = .ok (.invokevirtual 22, 3) := by decide +kernel
theorem dX7_copyFrom_33 : decode cX7_copyFrom 33 = .ok (.iinc 2 1, 3) := by decide +kernel
theorem dX7_copyFrom_36 : decode cX7_copyFrom 36 = .ok (.goto (-26), 3) := by decide +kernel
theorem dX7_copyFrom_39 : decode cX7_copyFrom 39 = .ok (.return_, 1) := by decide +kernel
theorem dX7_popInto_0 : decode cX7_popInto 0 = .ok (.aload_n 0, 1) := by decide +kernel
theorem dX7_popInto_1 : decode cX7_popInto 1 = .ok (.getfield 18, 3) := by decide +kernel
theorem dX7_popInto_4 : decode cX7_popInto 4 = .ok (.ifCond .le 26, 3) := by decide +kernel
theorem dX7_popInto_7 : decode cX7_popInto 7 = .ok (.aload_n 0, 1) := by decide +kernel
theorem dX7_popInto_8 : decode cX7_popInto 8 = .ok (.dup, 1) := by decide +kernel
theorem dX7_popInto_9 : decode cX7_popInto 9 = .ok (.getfield 18, 3) := by decide +kernel
theorem dX7_popInto_12 : decode cX7_popInto 12 = .ok (.iconst 1, 1) := by decide +kernel
theorem dX7_popInto_13 : decode cX7_popInto 13 = .ok (.isub, 1) := by decide +kernel
theorem dX7_popInto_14 : decode cX7_popInto 14 = .ok (.putfield 18, 3) := by decide +kernel
theorem dX7_popInto_17 : decode cX7_popInto 17 = .ok (.aload_n 1, 1) := by decide +kernel
theorem dX7_popInto_18 : decode cX7_popInto 18 = .ok (.aload_n 0, 1) := by decide +kernel
theorem dX7_popInto_19 : decode cX7_popInto 19 = .ok (.getfield 11, 3) := by decide +kernel
theorem dX7_popInto_22 : decode cX7_popInto 22 = .ok (.aload_n 0, 1) := by decide +kernel
theorem dX7_popInto_23 : decode cX7_popInto 23 = .ok (.getfield 18, 3) := by decide +kernel
theorem dX7_popInto_26 : decode cX7_popInto 26 = .ok (.aaload, 1) := by decide +kernel
theorem dX7_popInto_27 : decode cX7_popInto 27 = .ok (.invokevirtual 22, 3) := by decide +kernel
theorem dX7_popInto_30 : decode cX7_popInto 30 = .ok (.return_, 1) := by decide +kernel
theorem dX1_parts_0 : decode cX1_parts 0 = .ok (.aload_n 0, 1) := by decide +kernel
theorem dX1_parts_1 : decode cX1_parts 1 = .ok (.getfield 18, 3) := by decide +kernel
theorem dX1_parts_4 : decode cX1_parts 4 = .ok (.iload_n 1, 1) := by decide +kernel
theorem dX1_parts_5 : decode cX1_parts 5 = .ok (.iaload, 1) := by decide +kernel
theorem dX1_parts_6 : decode cX1_parts 6 = .ok (.ifCond .ne 7, 3) := by decide +kernel
theorem dX1_parts_9 : decode cX1_parts 9 = .ok (.iconst 1, 1) := by decide +kernel
theorem dX1_parts_10 : decode cX1_parts 10 = .ok (.goto 4, 3) := by decide +kernel
theorem dX1_parts_13 : decode cX1_parts 13 = .ok (.iconst 0, 1) := by decide +kernel
theorem dX1_parts_14 : decode cX1_parts 14 = .ok (.ireturn, 1) := by decide +kernel
theorem inU_X0 : ∀ w ∈ u_ws RX0 TX0 3, w ∈ BIG := by
  have h : u_ws RX0 TX0 3 = [228, 230, 232].filterMap (fun i => lw_tbl[i]?) := by decide +kernel
  have g : (u_ws RX0 TX0 3).all goodWord = true := by decide +kernel
  intro w hw
  refine inB ?_ (List.all_eq_true.mp g w hw)
  rw [h] at hw
  obtain ⟨i, -, hi⟩ := List.mem_filterMap.mp hw
  exact List.mem_of_getElem? hi
theorem fl_X0_9 : FL RX0 9 0 0 := ⟨RX0, TX0, 3, rfl, rfl, by decide, inU_X0, Or.inl (inBi 224 (by decide +kernel))⟩
theorem fl_X0_15 : FL RX0 15 0 1 := ⟨RX0, TX0, 3, rfl, rfl, by decide, inU_X0, Or.inl (inBi 225 (by decide +kernel))⟩
theorem fl_X0_24 : FL RX0 24 0 2 := ⟨RX0, TX0, 3, rfl, rfl, by decide, inU_X0, Or.inl (inBi 226 (by decide +kernel))⟩
theorem fp_X0_24 : FP RX0 24 0 2 := ⟨RX0, TX0, 3, tyX0, rfl, rfl, by decide, inU_X0, Or.inl (inBi 226 (by decide +kernel)), tyX0_ok, nmX0, rfl, by decide +kernel⟩
theorem inU_X8 : ∀ w ∈ u_ws RX8 TX8 6, w ∈ BIG := by
  have h : u_ws RX8 TX8 6 = [144, 146, 148, 150, 152, 154].filterMap (fun i => lw_tbl[i]?) := by decide +kernel
  have g : (u_ws RX8 TX8 6).all goodWord = true := by decide +kernel
  intro w hw
  refine inB ?_ (List.all_eq_true.mp g w hw)
  rw [h] at hw
  obtain ⟨i, -, hi⟩ := List.mem_filterMap.mp hw
  exact List.mem_of_getElem? hi
theorem fl_X8_25 : FL RX8 25 8 3 := ⟨RX8, TX8, 6, rfl, rfl, by decide, inU_X8, Or.inl (inBi 139 (by decide +kernel))⟩
theorem fl_X8_22 : FL RX8 22 8 2 := ⟨RX8, TX8, 6, rfl, rfl, by decide, inU_X8, Or.inl (inBi 138 (by decide +kernel))⟩
theorem fl_X8_9 : FL RX8 9 8 0 := ⟨RX8, TX8, 6, rfl, rfl, by decide, inU_X8, Or.inl (inBi 135 (by decide +kernel))⟩
theorem fp_X8_25 : FP RX8 25 8 3 := ⟨RX8, TX8, 6, tyX8, rfl, rfl, by decide, inU_X8, Or.inl (inBi 139 (by decide +kernel)), tyX8_ok, nmX8, rfl, by decide +kernel⟩
set_option maxRecDepth 20000 in
theorem cw_X8_next : Cond.code yX8_next cX8_next 1 (some .int) ∈ BIG := inB (List.mem_of_getElem? (i := 655) rfl) rfl
theorem mv_X8_31 : MV RX8 31 yX8_next cX8_next 1 (some .int) 0 := ⟨inBi 652 (by decide +kernel), inBi 653 (by decide +kernel), inBi 654 (by decide +kernel), inBi 96 (by decide +kernel), cw_X8_next, by decide +kernel, by decide +kernel, by decide +kernel⟩
theorem fl_X8_28 : FL RX8 28 8 4 := ⟨RX8, TX8, 6, rfl, rfl, by decide, inU_X8, Or.inl (inBi 140 (by decide +kernel))⟩
theorem fp_X8_28 : FP RX8 28 8 4 := ⟨RX8, TX8, 6, tyX8, rfl, rfl, by decide, inU_X8, Or.inl (inBi 140 (by decide +kernel)), tyX8_ok, nmX8, rfl, by decide +kernel⟩
theorem fp_X8_15 : FP RX8 15 8 5 := ⟨RX8, TX8, 6, tyX8, rfl, rfl, by decide, inU_X8, Or.inl (inBi 142 (by decide +kernel)), tyX8_ok, nmX8, rfl, by decide +kernel⟩
set_option maxRecDepth 20000 in
theorem cw_X8_fail : Cond.code yX8_fail cX8_fail 3 (some .boolean) ∈ BIG := inB (List.mem_of_getElem? (i := 721) rfl) rfl
theorem mv_X8_43 : MV RX8 43 yX8_fail cX8_fail 3 (some .boolean) 2 := ⟨inBi 718 (by decide +kernel), inBi 719 (by decide +kernel), inBi 720 (by decide +kernel), inBi 96 (by decide +kernel), cw_X8_fail, by decide +kernel, by decide +kernel, by decide +kernel⟩
set_option maxRecDepth 20000 in
theorem cw_X8_isDigit : Cond.code yX8_isDigit cX8_isDigit 1 (some .boolean) ∈ BIG := inB (List.mem_of_getElem? (i := 733) rfl) rfl
theorem ms_X8_35 : MS RX8 35 yX8_isDigit cX8_isDigit 1 (some .boolean) 1 := ⟨Or.inl (inBi 731 (by decide +kernel)), inBi 732 (by decide +kernel), inBi 96 (by decide +kernel), cw_X8_isDigit, by decide +kernel, by decide +kernel, by decide +kernel⟩
set_option maxRecDepth 20000 in
theorem cw_X8_takes : Cond.code yX8_takes cX8_takes 2 (some .boolean) ∈ BIG := inB (List.mem_of_getElem? (i := 745) rfl) rfl
theorem mv_X8_39 : MV RX8 39 yX8_takes cX8_takes 2 (some .boolean) 1 := ⟨inBi 742 (by decide +kernel), inBi 743 (by decide +kernel), inBi 744 (by decide +kernel), inBi 96 (by decide +kernel), cw_X8_takes, by decide +kernel, by decide +kernel, by decide +kernel⟩
set_option maxRecDepth 20000 in
theorem cw_X8_wants : Cond.code yX8_wants cX8_wants 2 (some .boolean) ∈ BIG := inB (List.mem_of_getElem? (i := 741) rfl) rfl
theorem mv_X0_53 : MV RX0 53 yX8_wants cX8_wants 2 (some .boolean) 1 := ⟨inBi 929 (by decide +kernel), inBi 739 (by decide +kernel), inBi 740 (by decide +kernel), inBi 96 (by decide +kernel), cw_X8_wants, by decide +kernel, by decide +kernel, by decide +kernel⟩
set_option maxRecDepth 20000 in
theorem cw_X8_number : Cond.code yX8_number cX8_number 5 (some .int) ∈ BIG := inB (List.mem_of_getElem? (i := 730) rfl) rfl
theorem mv_X0_45 : MV RX0 45 yX8_number cX8_number 5 (some .int) 2 := ⟨inBi 927 (by decide +kernel), inBi 728 (by decide +kernel), inBi 729 (by decide +kernel), inBi 96 (by decide +kernel), cw_X8_number, by decide +kernel, by decide +kernel, by decide +kernel⟩
theorem mv_X0_49 : MV RX0 49 yX8_fail cX8_fail 3 (some .boolean) 2 := ⟨inBi 928 (by decide +kernel), inBi 719 (by decide +kernel), inBi 720 (by decide +kernel), inBi 96 (by decide +kernel), cw_X8_fail, by decide +kernel, by decide +kernel, by decide +kernel⟩
theorem mv_X0_41 : MV RX0 41 yX8_next cX8_next 1 (some .int) 0 := ⟨inBi 926 (by decide +kernel), inBi 653 (by decide +kernel), inBi 654 (by decide +kernel), inBi 96 (by decide +kernel), cw_X8_next, by decide +kernel, by decide +kernel, by decide +kernel⟩
set_option maxRecDepth 20000 in
theorem cw_X8_isWhole : Cond.code yX8_isWhole cX8_isWhole 1 (some .boolean) ∈ BIG := inB (List.mem_of_getElem? (i := 749) rfl) rfl
theorem mv_X0_38 : MV RX0 38 yX8_isWhole cX8_isWhole 1 (some .boolean) 0 := ⟨inBi 930 (by decide +kernel), inBi 747 (by decide +kernel), inBi 748 (by decide +kernel), inBi 96 (by decide +kernel), cw_X8_isWhole, by decide +kernel, by decide +kernel, by decide +kernel⟩
set_option maxRecDepth 20000 in
theorem cw_X0_readLine : Cond.code yX0_readLine cX0_readLine 5 none ∈ BIG := inB (List.mem_of_getElem? (i := 925) rfl) rfl
theorem mv_X0_34 : MV RX0 34 yX0_readLine cX0_readLine 5 none 2 := ⟨inBi 922 (by decide +kernel), inBi 924 (by decide +kernel), inBi 15 (by decide +kernel), inBi 99 (by decide +kernel), cw_X0_readLine, by decide +kernel, by decide +kernel, by decide +kernel⟩
set_option maxRecDepth 20000 in
theorem cw_X8_ended : Cond.code yX8_ended cX8_ended 1 (some .boolean) ∈ BIG := inB (List.mem_of_getElem? (i := 651) rfl) rfl
theorem mv_X0_28 : MV RX0 28 yX8_ended cX8_ended 1 (some .boolean) 0 := ⟨inBi 921 (by decide +kernel), inBi 649 (by decide +kernel), inBi 650 (by decide +kernel), inBi 96 (by decide +kernel), cw_X8_ended, by decide +kernel, by decide +kernel, by decide +kernel⟩
theorem fl_X1_9 : FL RX1 9 1 0 := ⟨RX1, TX1, 6, rfl, rfl, by decide, inU_X1, Or.inl (inBi 164 (by decide +kernel))⟩
theorem fl_X1_15 : FL RX1 15 1 1 := ⟨RX1, TX1, 6, rfl, rfl, by decide, inU_X1, Or.inl (inBi 166 (by decide +kernel))⟩
theorem fl_X1_18 : FL RX1 18 1 2 := ⟨RX1, TX1, 6, rfl, rfl, by decide, inU_X1, Or.inl (inBi 169 (by decide +kernel))⟩
theorem fl_X1_31 : FL RX1 31 1 3 := ⟨RX1, TX1, 6, rfl, rfl, by decide, inU_X1, Or.inl (inBi 173 (by decide +kernel))⟩
theorem fp_X1_31 : FP RX1 31 1 3 := ⟨RX1, TX1, 6, tyX1, rfl, rfl, by decide, inU_X1, Or.inl (inBi 173 (by decide +kernel)), tyX1_ok, nmX1, rfl, by decide +kernel⟩
theorem fl_X1_34 : FL RX1 34 1 4 := ⟨RX1, TX1, 6, rfl, rfl, by decide, inU_X1, Or.inl (inBi 178 (by decide +kernel))⟩
theorem fp_X1_34 : FP RX1 34 1 4 := ⟨RX1, TX1, 6, tyX1, rfl, rfl, by decide, inU_X1, Or.inl (inBi 178 (by decide +kernel)), tyX1_ok, nmX1, rfl, by decide +kernel⟩
theorem fl_X1_21 : FL RX1 21 1 5 := ⟨RX1, TX1, 6, rfl, rfl, by decide, inU_X1, Or.inl (inBi 182 (by decide +kernel))⟩
theorem fp_X1_21 : FP RX1 21 1 5 := ⟨RX1, TX1, 6, tyX1, rfl, rfl, by decide, inU_X1, Or.inl (inBi 182 (by decide +kernel)), tyX1_ok, nmX1, rfl, by decide +kernel⟩
theorem mv_X8_58 : MV RX8 58 yJ0_charAt_5068e cJ0_charAt_5068e 2 (some .char) 1 := ⟨inBi 676 (by decide +kernel), inBi 677 (by decide +kernel), inBi 678 (by decide +kernel), inBi 113 (by decide +kernel), cw_J0_charAt_5068e, by decide +kernel, by decide +kernel, by decide +kernel⟩
theorem mv_X8_54 : MV RX8 54 yJ0_length_8abf5 cJ0_length_8abf5 1 (some .int) 0 := ⟨inBi 666 (by decide +kernel), inBi 667 (by decide +kernel), inBi 668 (by decide +kernel), inBi 113 (by decide +kernel), cw_J0_length_8abf5, by decide +kernel, by decide +kernel, by decide +kernel⟩
set_option maxRecDepth 20000 in
theorem cw_X8_isRead : Cond.code yX8_isRead cX8_isRead 5 (some .boolean) ∈ BIG := inB (List.mem_of_getElem? (i := 717) rfl) rfl
theorem mv_X8_62 : MV RX8 62 yX8_isRead cX8_isRead 5 (some .boolean) 3 := ⟨inBi 714 (by decide +kernel), inBi 716 (by decide +kernel), inBi 4 (by decide +kernel), inBi 96 (by decide +kernel), cw_X8_isRead, by decide +kernel, by decide +kernel, by decide +kernel⟩
theorem mv_X1_74 : MV RX1 74 yX8_number cX8_number 5 (some .int) 2 := ⟨inBi 727 (by decide +kernel), inBi 728 (by decide +kernel), inBi 729 (by decide +kernel), inBi 96 (by decide +kernel), cw_X8_number, by decide +kernel, by decide +kernel, by decide +kernel⟩
theorem mv_X1_66 : MV RX1 66 yX8_fail cX8_fail 3 (some .boolean) 2 := ⟨inBi 722 (by decide +kernel), inBi 719 (by decide +kernel), inBi 720 (by decide +kernel), inBi 96 (by decide +kernel), cw_X8_fail, by decide +kernel, by decide +kernel, by decide +kernel⟩
theorem mv_X1_78 : MV RX1 78 yX8_wants cX8_wants 2 (some .boolean) 1 := ⟨inBi 738 (by decide +kernel), inBi 739 (by decide +kernel), inBi 740 (by decide +kernel), inBi 96 (by decide +kernel), cw_X8_wants, by decide +kernel, by decide +kernel, by decide +kernel⟩
set_option maxRecDepth 20000 in
theorem cw_X1_readFellow : Cond.code yX1_readFellow cX1_readFellow 3 none ∈ BIG := inB (List.mem_of_getElem? (i := 726) rfl) rfl
theorem mv_X1_70 : MV RX1 70 yX1_readFellow cX1_readFellow 3 none 1 := ⟨inBi 723 (by decide +kernel), inBi 725 (by decide +kernel), inBi 5 (by decide +kernel), inBi 97 (by decide +kernel), cw_X1_readFellow, by decide +kernel, by decide +kernel, by decide +kernel⟩
set_option maxRecDepth 20000 in
theorem cw_X8_word : Cond.code yX8_word cX8_word 6 (some .int) ∈ BIG := inB (List.mem_of_getElem? (i := 665) rfl) rfl
theorem mv_X1_62 : MV RX1 62 yX8_word cX8_word 6 (some .int) 1 := ⟨inBi 662 (by decide +kernel), inBi 663 (by decide +kernel), inBi 664 (by decide +kernel), inBi 96 (by decide +kernel), cw_X8_word, by decide +kernel, by decide +kernel, by decide +kernel⟩
theorem mv_X1_56 : MV RX1 56 yX8_next cX8_next 1 (some .int) 0 := ⟨inBi 660 (by decide +kernel), inBi 653 (by decide +kernel), inBi 654 (by decide +kernel), inBi 96 (by decide +kernel), cw_X8_next, by decide +kernel, by decide +kernel, by decide +kernel⟩
theorem mv_X1_53 : MV RX1 53 yX8_isWhole cX8_isWhole 1 (some .boolean) 0 := ⟨inBi 746 (by decide +kernel), inBi 747 (by decide +kernel), inBi 748 (by decide +kernel), inBi 96 (by decide +kernel), cw_X8_isWhole, by decide +kernel, by decide +kernel, by decide +kernel⟩
set_option maxRecDepth 20000 in
theorem cw_X1_readClause : Cond.code yX1_readClause cX1_readClause 5 none ∈ BIG := inB (List.mem_of_getElem? (i := 659) rfl) rfl
theorem mv_X1_49 : MV RX1 49 yX1_readClause cX1_readClause 5 none 2 := ⟨inBi 656 (by decide +kernel), inBi 658 (by decide +kernel), inBi 3 (by decide +kernel), inBi 97 (by decide +kernel), cw_X1_readClause, by decide +kernel, by decide +kernel, by decide +kernel⟩
theorem mv_X1_43 : MV RX1 43 yX8_ended cX8_ended 1 (some .boolean) 0 := ⟨inBi 648 (by decide +kernel), inBi 649 (by decide +kernel), inBi 650 (by decide +kernel), inBi 96 (by decide +kernel), cw_X8_ended, by decide +kernel, by decide +kernel, by decide +kernel⟩
theorem ms_X1_37 : MS RX1 37 yJ7_fill_53178 cJ7_fill_53178 4 none 2 := ⟨Or.inl (inBi 645 (by decide +kernel)), inBi 646 (by decide +kernel), inBi 112 (by decide +kernel), cw_J7_fill_53178, by decide +kernel, by decide +kernel, by decide +kernel⟩
theorem inU_X4 : ∀ w ∈ u_ws RX4 TX4 3, w ∈ BIG := by
  have h : u_ws RX4 TX4 3 = [211, 213, 215].filterMap (fun i => lw_tbl[i]?) := by decide +kernel
  have g : (u_ws RX4 TX4 3).all goodWord = true := by decide +kernel
  intro w hw
  refine inB ?_ (List.all_eq_true.mp g w hw)
  rw [h] at hw
  obtain ⟨i, -, hi⟩ := List.mem_filterMap.mp hw
  exact List.mem_of_getElem? hi
theorem fl_X4_9 : FL RX4 9 4 0 := ⟨RX4, TX4, 3, rfl, rfl, by decide, inU_X4, Or.inl (inBi 208 (by decide +kernel))⟩
theorem fp_X4_21 : FP RX4 21 4 2 := ⟨RX4, TX4, 3, tyX4, rfl, rfl, by decide, inU_X4, Or.inl (inBi 210 (by decide +kernel)), tyX4_ok, nmX4, rfl, by decide +kernel⟩
theorem fl_X4_21 : FL RX4 21 4 2 := ⟨RX4, TX4, 3, rfl, rfl, by decide, inU_X4, Or.inl (inBi 210 (by decide +kernel))⟩
set_option maxRecDepth 20000 in
theorem cw_X4_lay : Cond.code yX4_lay cX4_lay 2 (some .boolean) ∈ BIG := inB (List.mem_of_getElem? (i := 793) rfl) rfl
theorem mv_X4_56 : MV RX4 56 yX4_lay cX4_lay 2 (some .boolean) 1 := ⟨inBi 790 (by decide +kernel), inBi 792 (by decide +kernel), inBi 9 (by decide +kernel), inBi 98 (by decide +kernel), cw_X4_lay, by decide +kernel, by decide +kernel, by decide +kernel⟩
theorem mv_X4_70 : MV RX4 70 yX8_wants cX8_wants 2 (some .boolean) 1 := ⟨inBi 795 (by decide +kernel), inBi 739 (by decide +kernel), inBi 740 (by decide +kernel), inBi 96 (by decide +kernel), cw_X8_wants, by decide +kernel, by decide +kernel, by decide +kernel⟩
set_option maxRecDepth 20000 in
theorem cw_X4_readSum : Cond.code yX4_readSum cX4_readSum 6 (some .boolean) ∈ BIG := inB (List.mem_of_getElem? (i := 775) rfl) rfl
theorem mv_X4_31 : MV RX4 31 yX4_readSum cX4_readSum 6 (some .boolean) 2 := ⟨inBi 772 (by decide +kernel), inBi 774 (by decide +kernel), inBi 6 (by decide +kernel), inBi 98 (by decide +kernel), cw_X4_readSum, by decide +kernel, by decide +kernel, by decide +kernel⟩
theorem mv_X4_45 : MV RX4 45 yX8_fail cX8_fail 3 (some .boolean) 2 := ⟨inBi 796 (by decide +kernel), inBi 719 (by decide +kernel), inBi 720 (by decide +kernel), inBi 96 (by decide +kernel), cw_X8_fail, by decide +kernel, by decide +kernel, by decide +kernel⟩
theorem mv_X4_75 : MV RX4 75 yX8_word cX8_word 6 (some .int) 1 := ⟨inBi 798 (by decide +kernel), inBi 663 (by decide +kernel), inBi 664 (by decide +kernel), inBi 96 (by decide +kernel), cw_X8_word, by decide +kernel, by decide +kernel, by decide +kernel⟩
theorem mv_X4_52 : MV RX4 52 yX8_takes cX8_takes 2 (some .boolean) 1 := ⟨inBi 794 (by decide +kernel), inBi 743 (by decide +kernel), inBi 744 (by decide +kernel), inBi 96 (by decide +kernel), cw_X8_takes, by decide +kernel, by decide +kernel, by decide +kernel⟩
theorem mv_X4_66 : MV RX4 66 yX8_number cX8_number 5 (some .int) 2 := ⟨inBi 789 (by decide +kernel), inBi 728 (by decide +kernel), inBi 729 (by decide +kernel), inBi 96 (by decide +kernel), cw_X8_number, by decide +kernel, by decide +kernel, by decide +kernel⟩
set_option maxRecDepth 20000 in
theorem cw_X8_seesDigit : Cond.code yX8_seesDigit cX8_seesDigit 1 (some .boolean) ∈ BIG := inB (List.mem_of_getElem? (i := 788) rfl) rfl
theorem mv_X4_63 : MV RX4 63 yX8_seesDigit cX8_seesDigit 1 (some .boolean) 0 := ⟨inBi 785 (by decide +kernel), inBi 786 (by decide +kernel), inBi 787 (by decide +kernel), inBi 96 (by decide +kernel), cw_X8_seesDigit, by decide +kernel, by decide +kernel, by decide +kernel⟩
theorem mv_X4_41 : MV RX4 41 yX8_next cX8_next 1 (some .int) 0 := ⟨inBi 784 (by decide +kernel), inBi 653 (by decide +kernel), inBi 654 (by decide +kernel), inBi 96 (by decide +kernel), cw_X8_next, by decide +kernel, by decide +kernel, by decide +kernel⟩
set_option maxRecDepth 20000 in
theorem cw_X4_readUnit : Cond.code yX4_readUnit cX4_readUnit 5 (some .boolean) ∈ BIG := inB (List.mem_of_getElem? (i := 783) rfl) rfl
theorem mv_X4_60 : MV RX4 60 yX4_readUnit cX4_readUnit 5 (some .boolean) 2 := ⟨inBi 780 (by decide +kernel), inBi 782 (by decide +kernel), inBi 8 (by decide +kernel), inBi 98 (by decide +kernel), cw_X4_readUnit, by decide +kernel, by decide +kernel, by decide +kernel⟩
set_option maxRecDepth 20000 in
theorem cw_X4_readProduct : Cond.code yX4_readProduct cX4_readProduct 6 (some .boolean) ∈ BIG := inB (List.mem_of_getElem? (i := 779) rfl) rfl
theorem mv_X4_49 : MV RX4 49 yX4_readProduct cX4_readProduct 6 (some .boolean) 2 := ⟨inBi 776 (by decide +kernel), inBi 778 (by decide +kernel), inBi 7 (by decide +kernel), inBi 98 (by decide +kernel), cw_X4_readProduct, by decide +kernel, by decide +kernel, by decide +kernel⟩
theorem mv_X4_35 : MV RX4 35 yX8_ended cX8_ended 1 (some .boolean) 0 := ⟨inBi 799 (by decide +kernel), inBi 649 (by decide +kernel), inBi 650 (by decide +kernel), inBi 96 (by decide +kernel), cw_X8_ended, by decide +kernel, by decide +kernel, by decide +kernel⟩
theorem fl_X4_15 : FL RX4 15 4 1 := ⟨RX4, TX4, 3, rfl, rfl, by decide, inU_X4, Or.inl (inBi 209 (by decide +kernel))⟩
set_option maxRecDepth 20000 in
theorem cw_X4_joined : Cond.code yX4_joined cX4_joined 3 (some .int) ∈ BIG := inB (List.mem_of_getElem? (i := 881) rfl) rfl
theorem ms_X4_79 : MS RX4 79 yX4_joined cX4_joined 3 (some .int) 3 := ⟨Or.inl (inBi 879 (by decide +kernel)), inBi 880 (by decide +kernel), inBi 98 (by decide +kernel), cw_X4_joined, by decide +kernel, by decide +kernel, by decide +kernel⟩
theorem inU_X7 : ∀ w ∈ u_ws RX7 TX7 2, w ∈ BIG := by
  have h : u_ws RX7 TX7 2 = [356, 358].filterMap (fun i => lw_tbl[i]?) := by decide +kernel
  have g : (u_ws RX7 TX7 2).all goodWord = true := by decide +kernel
  intro w hw
  refine inB ?_ (List.all_eq_true.mp g w hw)
  rw [h] at hw
  obtain ⟨i, -, hi⟩ := List.mem_filterMap.mp hw
  exact List.mem_of_getElem? hi
theorem fl_X7_18 : FL RX7 18 7 1 := ⟨RX7, TX7, 2, rfl, rfl, by decide, inU_X7, Or.inl (inBi 354 (by decide +kernel))⟩
theorem fl_X7_11 : FL RX7 11 7 0 := ⟨RX7, TX7, 2, rfl, rfl, by decide, inU_X7, Or.inl (inBi 353 (by decide +kernel))⟩
theorem fp_X7_18 : FP RX7 18 7 1 := ⟨RX7, TX7, 2, tyX7, rfl, rfl, by decide, inU_X7, Or.inl (inBi 354 (by decide +kernel)), tyX7_ok, nmX7, rfl, by decide +kernel⟩
set_option maxRecDepth 20000 in
theorem cw_X2_copyFrom : Cond.code yX2_copyFrom cX2_copyFrom 2 none ∈ BIG := inB (List.mem_of_getElem? (i := 518) rfl) rfl
theorem mv_X7_22 : MV RX7 22 yX2_copyFrom cX2_copyFrom 2 none 1 := ⟨inBi 515 (by decide +kernel), inBi 516 (by decide +kernel), inBi 517 (by decide +kernel), inBi 102 (by decide +kernel), cw_X2_copyFrom, by decide +kernel, by decide +kernel, by decide +kernel⟩
theorem fl_X8_19 : FL RX8 19 8 1 := ⟨RX8, TX8, 6, rfl, rfl, by decide, inU_X8, Or.inl (inBi 137 (by decide +kernel))⟩
theorem fp_X8_19 : FP RX8 19 8 1 := ⟨RX8, TX8, 6, tyX8, rfl, rfl, by decide, inU_X8, Or.inl (inBi 137 (by decide +kernel)), tyX8_ok, nmX8, rfl, by decide +kernel⟩
theorem fp_X8_22 : FP RX8 22 8 2 := ⟨RX8, TX8, 6, tyX8, rfl, rfl, by decide, inU_X8, Or.inl (inBi 138 (by decide +kernel)), tyX8_ok, nmX8, rfl, by decide +kernel⟩
def fX0_copyFrom (sh : Shp) (x0 : Nat) (x1 : Nat) (mm : Mem) : Option (Mem) :=
  (rR sh 0 x1 0).bind fun a1 =>
  (rR sh 0 x0 0).bind fun a2 =>
  (aC sh mm a1 0 a2 0 8).bind fun m3 =>
  (rR sh 0 x1 1).bind fun a4 =>
  (rR sh 0 x0 1).bind fun a5 =>
  (aC sh m3 a4 0 a5 0 8).bind fun m6 =>
  (rI sh m6 0 x1 2).bind fun v7 =>
  (wI sh m6 0 x0 2 v7).bind fun m8 =>
  some m8
def fX8_next_j38 (sh : Shp) (x0 : Nat) (mm : Mem) : Option (Int32 × Mem) :=
  (rI sh mm 8 x0 3).bind fun v1 =>
  some (v1, mm)
def fX8_next_b0 (sh : Shp) (x0 : Nat) (mm : Mem) : Option ((Mem) ⊕ ((Mem))) :=
  (rI sh mm 8 x0 3).bind fun v2 =>
  (rI sh mm 8 x0 2).bind fun v3 =>
  if v3 ≤ v2 then (some (.inr mm))
  else ((rR sh 8 x0 0).bind fun a5 =>
  (rI sh mm 8 x0 3).bind fun v6 =>
  (aL sh mm a5 v6).bind fun v7 =>
  if v7 = 32 then ((rI sh mm 8 x0 3).bind fun v9 =>
  (wI sh mm 8 x0 3 (v9 + 1)).bind fun m10 =>
  some (.inl m10))
  else (some (.inr mm)))
def fX8_next (sh : Shp) (x0 : Nat) (mm : Mem) : Option (Int32 × Mem) :=
  (loopN (fun st : Mem => fX8_next_b0 sh x0 st) FU mm).bind (fun t => fX8_next_j38 sh x0 t)
def fX8_ended_j16 (sh : Shp) (s0 : Int32) (mm : Mem) : Option (Int32 × Mem) :=
  (ckZ s0).bind fun v1 => some (v1, mm)
def fX8_ended (sh : Shp) (x0 : Nat) (mm : Mem) : Option (Int32 × Mem) :=
  (isO sh 8 x0).bind fun _ =>
  bd2 (fX8_next sh x0 mm) fun v2 m3 =>
  (rI sh m3 8 x0 2).bind fun v4 =>
  if v2 < v4 then (fX8_ended_j16 sh 0 m3)
  else (fX8_ended_j16 sh 1 m3)
def fX8_isDigit_j17 (s0 : Int32) : Option (Int32) :=
  (ckZ s0).bind fun v1 => some v1
def fX8_isDigit_j16 : Option (Int32) :=
  fX8_isDigit_j17 0
def fX8_isDigit (x0 : Int32) : Option (Int32) :=
  if x0 < 48 then (fX8_isDigit_j16 )
  else (if 57 < x0 then (fX8_isDigit_j16 )
  else (fX8_isDigit_j17 1))
def fX8_fail_j17 (sh : Shp) (mm : Mem) : Option (Int32 × Mem) :=
  some (0, mm)
def fX8_fail (sh : Shp) (x0 : Nat) (x1 : Int32) (x2 : Int32) (mm : Mem) : Option (Int32 × Mem) :=
  (rI sh mm 8 x0 4).bind fun v1 =>
  if v1 = 0 then ((wI sh mm 8 x0 4 x1).bind fun m3 =>
  (wI sh m3 8 x0 5 x2).bind fun m4 =>
  fX8_fail_j17 sh m4)
  else (fX8_fail_j17 sh mm)
def fX8_number_j101 (sh : Shp) (x0 : Nat) (x3 : Int32) (mm : Mem) : Option (Int32 × Mem) :=
  (isO sh 8 x0).bind fun _ =>
  bd2 (fX8_fail sh x0 2 x3 mm) fun v1 m2 =>
  some ((-1), m2)
def fX8_number_j72 (sh : Shp) (x0 : Nat) (x1 : Int32) (x2 : Int32) (x3 : Int32) (x4 : Int32) (mm : Mem) : Option (Int32 × Mem) :=
  (rI sh mm 8 x0 3).bind fun v3 =>
  if v3 = x3 then ((isO sh 8 x0).bind fun _ =>
  bd2 (fX8_fail sh x0 1 x3 mm) fun v7 m8 =>
  some ((-1), m8))
  else (if x4 < x1 then (fX8_number_j101 sh x0 x3 mm)
  else (if x4 ≤ x2 then (some (x4, mm))
  else (fX8_number_j101 sh x0 x3 mm)))
def fX8_number_b8 (sh : Shp) (x0 : Nat) (x1 : Int32) (x2 : Int32) (x3 : Int32) (x4 : Int32) (mm : Mem) : Option ((Int32 × Mem) ⊕ ((Int32 × Mem))) :=
  (rI sh mm 8 x0 3).bind fun v13 =>
  (rI sh mm 8 x0 2).bind fun v14 =>
  if v14 ≤ v13 then (some (.inr (x4, mm)))
  else ((rR sh 8 x0 0).bind fun a16 =>
  (rI sh mm 8 x0 3).bind fun v17 =>
  (aL sh mm a16 v17).bind fun v18 =>
  (fX8_isDigit v18).bind fun v19 =>
  if v19 = 0 then (some (.inr (x4, mm)))
  else ((rR sh 8 x0 0).bind fun a21 =>
  (rI sh mm 8 x0 3).bind fun v22 =>
  (aL sh mm a21 v22).bind fun v23 =>
  lt1 (mnI 100000 (((x4 * 10) + v23) - 48)) fun x4_24 =>
  (rI sh mm 8 x0 3).bind fun v25 =>
  (wI sh mm 8 x0 3 (v25 + 1)).bind fun m26 =>
  some (.inl (x4_24, m26))))
def fX8_number (sh : Shp) (x0 : Nat) (x1 : Int32) (x2 : Int32) (mm : Mem) : Option (Int32 × Mem) :=
  (isO sh 8 x0).bind fun _ =>
  bd2 (fX8_next sh x0 mm) fun v9 m10 =>
  lt1 v9 fun x3_11 =>
  lt1 0 fun x4_12 =>
  (loopN (fun st : Int32 × Mem => fX8_number_b8 sh x0 x1 x2 x3_11 st.1 st.2) FU (x4_12, m10)).bind (fun t => fX8_number_j72 sh x0 x1 x2 x3_11 t.1 t.2)
def fX8_takes_j24 (sh : Shp) (mm : Mem) : Option (Int32 × Mem) :=
  some (0, mm)
def fX8_takes (sh : Shp) (x0 : Nat) (x1 : Int32) (mm : Mem) : Option (Int32 × Mem) :=
  (isO sh 8 x0).bind fun _ =>
  bd2 (fX8_next sh x0 mm) fun v1 m2 =>
  (rI sh m2 8 x0 2).bind fun v3 =>
  if v3 ≤ v1 then (fX8_takes_j24 sh m2)
  else ((rR sh 8 x0 0).bind fun a5 =>
  (rI sh m2 8 x0 3).bind fun v6 =>
  (aL sh m2 a5 v6).bind fun v7 =>
  if v7 = x1 then ((rI sh m2 8 x0 3).bind fun v9 =>
  (wI sh m2 8 x0 3 (v9 + 1)).bind fun m10 =>
  some (1, m10))
  else (fX8_takes_j24 sh m2))
def fX8_wants_j25 (sh : Shp) (s0 : Int32) (mm : Mem) : Option (Int32 × Mem) :=
  (ckZ s0).bind fun v1 => some (v1, mm)
def fX8_wants_j20 (sh : Shp) (mm : Mem) : Option (Int32 × Mem) :=
  fX8_wants_j25 sh 1 mm
def fX8_wants (sh : Shp) (x0 : Nat) (x1 : Int32) (mm : Mem) : Option (Int32 × Mem) :=
  (isO sh 8 x0).bind fun _ =>
  bd2 (fX8_takes sh x0 x1 mm) fun v2 m3 =>
  if v2 = 0 then ((rI sh m3 8 x0 3).bind fun v5 =>
  (isO sh 8 x0).bind fun _ =>
  bd2 (fX8_fail sh x0 1 v5 m3) fun v6 m7 =>
  if v6 = 0 then (fX8_wants_j25 sh 0 m7)
  else (fX8_wants_j20 sh m7))
  else (fX8_wants_j20 sh m3)
def fX0_readLine (sh : Shp) (x0 : Nat) (x1 : Nat) (x2 : Int32) (mm : Mem) : Option (Mem) :=
  (isO sh 8 x1).bind fun _ =>
  bd2 (fX8_next sh x1 mm) fun v1 m2 =>
  lt1 v1 fun x3_3 =>
  (isO sh 8 x1).bind fun _ =>
  bd2 (fX8_number sh x1 0 (x2 - 1) m2) fun v4 m5 =>
  lt1 v4 fun x4_6 =>
  (rI sh m5 0 x0 2).bind fun v7 =>
  if v7 < 8 then ((rR sh 0 x0 0).bind fun a9 =>
  (rI sh m5 0 x0 2).bind fun v10 =>
  (aS sh m5 a9 v10 x4_6).bind fun m11 =>
  (rR sh 0 x0 1).bind fun a12 =>
  (rI sh m11 0 x0 2).bind fun v13 =>
  (isO sh 8 x1).bind fun _ =>
  bd2 (fX8_number sh x1 0 400 m11) fun v14 m15 =>
  (aS sh m15 a12 v13 v14).bind fun m16 =>
  (rI sh m16 0 x0 2).bind fun v17 =>
  (wI sh m16 0 x0 2 (v17 + 1)).bind fun m18 =>
  (isO sh 8 x1).bind fun _ =>
  bd2 (fX8_wants sh x1 59 m18) fun v19 m20 =>
  some m20)
  else ((isO sh 8 x1).bind fun _ =>
  bd2 (fX8_fail sh x1 3 x3_3 m5) fun v21 m22 =>
  some m22)
def fX8_isWhole_j12 (sh : Shp) (s0 : Int32) (mm : Mem) : Option (Int32) :=
  (ckZ s0).bind fun v1 => some v1
def fX8_isWhole (sh : Shp) (x0 : Nat) (mm : Mem) : Option (Int32) :=
  (rI sh mm 8 x0 4).bind fun v2 =>
  if v2 = 0 then (fX8_isWhole_j12 sh 1 mm)
  else (fX8_isWhole_j12 sh 0 mm)
def fX0_read_j41 (sh : Shp) (mm : Mem) : Option (Int32 × Mem) :=
  some (1, mm)
def fX0_read_j33 (sh : Shp) (mm : Mem) : Option (Int32 × Mem) :=
  some (0, mm)
def fX0_read_b7 (sh : Shp) (x0 : Nat) (x1 : Nat) (x2 : Int32) (x3 : Int32) (mm : Mem) : Option ((Int32 × Mem) ⊕ ((Mem) ⊕ (Mem))) :=
  if 8 < x3 then (some (.inr (Sum.inr (mm))))
  else ((isO sh 8 x1).bind fun _ =>
  bd2 (fX8_ended sh x1 mm) fun v4 m5 =>
  if v4 = 0 then ((isO sh 0 x0).bind fun _ =>
  (fX0_readLine sh x0 x1 x2 m5).bind fun m7 =>
  (isO sh 8 x1).bind fun _ =>
  (fX8_isWhole sh x1 m7).bind fun v8 =>
  if v8 = 0 then (some (.inr (Sum.inl m7)))
  else (lt1 (x3 + 1) fun x3_10 =>
  some (.inl (x3_10, m7))))
  else (some (.inr (Sum.inr (m5)))))
def fX0_read (sh : Shp) (x0 : Nat) (x1 : Nat) (x2 : Int32) (mm : Mem) : Option (Int32 × Mem) :=
  (wI sh mm 0 x0 2 0).bind fun m1 =>
  lt1 0 fun x3_2 =>
  (loopN (fun st : Int32 × Mem => fX0_read_b7 sh x0 x1 x2 st.1 st.2) FU (x3_2, m1)).bind (Sum.elim (fun t => fX0_read_j33 sh t) (fun t => fX0_read_j41 sh t))
def fX0_tells_j28 (sh : Shp) (mm : Mem) : Option (Int32) :=
  some 0
def fX0_tells_j20 (sh : Shp) (mm : Mem) : Option (Int32) :=
  some 1
def fX0_tells_b2 (sh : Shp) (x0 : Nat) (x1 : Int32) (x2 : Int32) (mm : Mem) : Option ((Int32) ⊕ ((Unit) ⊕ (Unit))) :=
  (rI sh mm 0 x0 2).bind fun v2 =>
  if v2 ≤ x2 then (some (.inr (Sum.inr (()))))
  else ((rR sh 0 x0 0).bind fun a4 =>
  (aL sh mm a4 x2).bind fun v5 =>
  if v5 = x1 then (some (.inr (Sum.inl ())))
  else (lt1 (x2 + 1) fun x2_7 =>
  some (.inl x2_7)))
def fX0_tells (sh : Shp) (x0 : Nat) (x1 : Int32) (mm : Mem) : Option (Int32) :=
  lt1 0 fun x2_1 =>
  (loopN (fun st : Int32 => fX0_tells_b2 sh x0 x1 st mm) FU x2_1).bind (Sum.elim (fun t => fX0_tells_j20 sh mm) (fun t => fX0_tells_j28 sh mm))
def fX0_isRight_j47 (sh : Shp) (mm : Mem) : Option (Int32) :=
  some 1
def fX0_isRight_j39 (sh : Shp) (mm : Mem) : Option (Int32) :=
  some 0
def fX0_isRight_b2 (sh : Shp) (x0 : Nat) (x1 : Nat) (x2 : Int32) (mm : Mem) : Option ((Int32) ⊕ ((Unit) ⊕ (Unit))) :=
  (rI sh mm 0 x0 2).bind fun v2 =>
  if v2 ≤ x2 then (some (.inr (Sum.inr (()))))
  else ((rR sh 0 x0 0).bind fun a4 =>
  (aL sh mm a4 x2).bind fun v5 =>
  lt1 v5 fun x3_6 =>
  if x3_6 < 0 then (some (.inr (Sum.inl ())))
  else ((aN sh x1).bind fun v8 =>
  if v8 ≤ x3_6 then (some (.inr (Sum.inl ())))
  else ((aL sh mm x1 x3_6).bind fun v10 =>
  (rR sh 0 x0 1).bind fun a11 =>
  (aL sh mm a11 x2).bind fun v12 =>
  if v10 = v12 then (lt1 (x2 + 1) fun x2_14 =>
  some (.inl x2_14))
  else (some (.inr (Sum.inl ()))))))
def fX0_isRight (sh : Shp) (x0 : Nat) (x1 : Nat) (mm : Mem) : Option (Int32) :=
  lt1 0 fun x2_1 =>
  (loopN (fun st : Int32 => fX0_isRight_b2 sh x0 x1 st mm) FU x2_1).bind (Sum.elim (fun t => fX0_isRight_j39 sh mm) (fun t => fX0_isRight_j47 sh mm))
def fX1_copyFrom (sh : Shp) (x0 : Nat) (x1 : Nat) (mm : Mem) : Option (Mem) :=
  (rR sh 1 x1 0).bind fun a1 =>
  (rR sh 1 x0 0).bind fun a2 =>
  (aC sh mm a1 0 a2 0 42).bind fun m3 =>
  (rR sh 1 x1 1).bind fun a4 =>
  (rR sh 1 x0 1).bind fun a5 =>
  (aC sh m3 a4 0 a5 0 8).bind fun m6 =>
  (rR sh 1 x1 2).bind fun a7 =>
  (rR sh 1 x0 2).bind fun a8 =>
  (aC sh m6 a7 0 a8 0 8).bind fun m9 =>
  (rI sh m9 1 x1 3).bind fun v10 =>
  (wI sh m9 1 x0 3 v10).bind fun m11 =>
  (rI sh m11 1 x1 4).bind fun v12 =>
  (wI sh m11 1 x0 4 v12).bind fun m13 =>
  (rI sh m13 1 x1 5).bind fun v14 =>
  (wI sh m13 1 x0 5 v14).bind fun m15 =>
  some m15
def fX1_parts_j14 (sh : Shp) (s0 : Int32) (mm : Mem) : Option (Int32) :=
  (ckZ s0).bind fun v1 => some v1
def fX1_parts (sh : Shp) (x0 : Nat) (x1 : Int32) (mm : Mem) : Option (Int32) :=
  (rR sh 1 x0 2).bind fun a2 =>
  (aL sh mm a2 x1).bind fun v3 =>
  if v3 = 0 then (fX1_parts_j14 sh 1 mm)
  else (fX1_parts_j14 sh 0 mm)
def fX8_isRead_j40 (sh : Shp) (mm : Mem) : Option (Int32) :=
  some 1
def fX8_isRead_j32 (sh : Shp) (mm : Mem) : Option (Int32) :=
  some 0
def fX8_isRead_b3 (sh : Shp) (x0 : Nat) (x1 : Nat) (x2 : Int32) (x3 : Int32) (x4 : Int32) (mm : Mem) : Option ((Int32) ⊕ ((Unit) ⊕ (Unit))) :=
  (rI sh mm 8 x0 3).bind fun v2 =>
  if v2 ≤ x4 then (some (.inr (Sum.inr (()))))
  else ((sCh x1 ((x2 + x4) - x3)).bind fun v4 =>
  (rR sh 8 x0 0).bind fun a5 =>
  (aL sh mm a5 x4).bind fun v6 =>
  if v4 = v6 then (lt1 (x4 + 1) fun x4_8 =>
  some (.inl x4_8))
  else (some (.inr (Sum.inl ()))))
def fX8_isRead (sh : Shp) (x0 : Nat) (x1 : Nat) (x2 : Int32) (x3 : Int32) (mm : Mem) : Option (Int32) :=
  lt1 x3 fun x4_1 =>
  (loopN (fun st : Int32 => fX8_isRead_b3 sh x0 x1 x2 x3 st mm) FU x4_1).bind (Sum.elim (fun t => fX8_isRead_j32 sh mm) (fun t => fX8_isRead_j40 sh mm))
def fX8_word_j127 (sh : Shp) (x0 : Nat) (x2 : Int32) (mm : Mem) : Option (Int32 × Mem) :=
  (isO sh 8 x0).bind fun _ =>
  bd2 (fX8_fail sh x0 1 x2 mm) fun v1 m2 =>
  some ((-1), m2)
def fX8_word_j110 (sh : Shp) (x3 : Int32) (mm : Mem) : Option (Int32 × Mem) :=
  some (x3, mm)
def fX8_word_j121 (sh : Shp) (x0 : Nat) (x1 : Nat) (x2 : Int32) (x3 : Int32) (x4 : Int32) (x5 : Int32) (mm : Mem) : Option ((Int32 × Int32 × Int32) ⊕ ((Int32) ⊕ (Unit))) :=
  lt1 (x5 + 1) fun x5_6 =>
  some (.inl (x3, x4, x5_6))
def fX8_word_j112 (sh : Shp) (x0 : Nat) (x1 : Nat) (x2 : Int32) (x3 : Int32) (x5 : Int32) (mm : Mem) : Option ((Int32 × Int32 × Int32) ⊕ ((Int32) ⊕ (Unit))) :=
  lt1 (x3 + 1) fun x3_7 =>
  lt1 (x5 + 1) fun x4_8 =>
  fX8_word_j121 sh x0 x1 x2 x3_7 x4_8 x5 mm
def fX8_word_b65 (sh : Shp) (x0 : Nat) (x1 : Nat) (x2 : Int32) (x3 : Int32) (x4 : Int32) (x5 : Int32) (mm : Mem) : Option ((Int32 × Int32 × Int32) ⊕ ((Int32) ⊕ (Unit))) :=
  (sLn x1).bind fun v9 =>
  if v9 ≤ x5 then (some (.inr (Sum.inr (()))))
  else ((sCh x1 x5).bind fun v11 =>
  if v11 = 32 then ((rI sh mm 8 x0 3).bind fun v13 =>
  if (x5 - x4) = (v13 - x2) then ((isO sh 8 x0).bind fun _ =>
  (fX8_isRead sh x0 x1 x4 x2 mm).bind fun v15 =>
  if v15 = 0 then (fX8_word_j112 sh x0 x1 x2 x3 x5 mm)
  else (some (.inr (Sum.inl x3))))
  else (fX8_word_j112 sh x0 x1 x2 x3 x5 mm))
  else (fX8_word_j121 sh x0 x1 x2 x3 x4 x5 mm))
def fX8_word_j57 (sh : Shp) (x0 : Nat) (x1 : Nat) (x2 : Int32) (mm : Mem) : Option (Int32 × Mem) :=
  lt1 0 fun x3_3 =>
  lt1 0 fun x4_4 =>
  lt1 0 fun x5_5 =>
  (loopN (fun st : Int32 × Int32 × Int32 => fX8_word_b65 sh x0 x1 x2 st.1 st.2.1 st.2.2 mm) FU (x3_3, x4_4, x5_5)).bind (Sum.elim (fun t => fX8_word_j110 sh t mm) (fun t => fX8_word_j127 sh x0 x2 mm))
def fX8_word_b5 (sh : Shp) (x0 : Nat) (x1 : Nat) (x2 : Int32) (mm : Mem) : Option ((Mem) ⊕ ((Mem))) :=
  (rI sh mm 8 x0 3).bind fun v20 =>
  (rI sh mm 8 x0 2).bind fun v21 =>
  if v21 ≤ v20 then (some (.inr mm))
  else ((rR sh 8 x0 0).bind fun a23 =>
  (rI sh mm 8 x0 3).bind fun v24 =>
  (aL sh mm a23 v24).bind fun v25 =>
  if v25 < 97 then (some (.inr mm))
  else ((rR sh 8 x0 0).bind fun a27 =>
  (rI sh mm 8 x0 3).bind fun v28 =>
  (aL sh mm a27 v28).bind fun v29 =>
  if 122 < v29 then (some (.inr mm))
  else ((rI sh mm 8 x0 3).bind fun v31 =>
  (wI sh mm 8 x0 3 (v31 + 1)).bind fun m32 =>
  some (.inl m32))))
def fX8_word (sh : Shp) (x0 : Nat) (x1 : Nat) (mm : Mem) : Option (Int32 × Mem) :=
  (isO sh 8 x0).bind fun _ =>
  bd2 (fX8_next sh x0 mm) fun v17 m18 =>
  lt1 v17 fun x2_19 =>
  (loopN (fun st : Mem => fX8_word_b5 sh x0 x1 x2_19 st) FU m18).bind (fun t => fX8_word_j57 sh x0 x1 x2_19 t)
def fX1_readFellow_j35 (sh : Shp) (x0 : Nat) (mm : Mem) : Option (Mem) :=
  (rI sh mm 1 x0 3).bind fun v1 =>
  (wI sh mm 1 x0 3 (v1 + 1)).bind fun m2 =>
  some m2
def fX1_readFellow_b2 (sh : Shp) (x0 : Nat) (x1 : Nat) (x2 : Int32) (mm : Mem) : Option ((Int32 × Mem) ⊕ ((Mem))) :=
  if 7 ≤ x2 then (some (.inr mm))
  else ((rR sh 1 x0 0).bind fun a5 =>
  (rI sh mm 1 x0 3).bind fun v6 =>
  (isO sh 8 x1).bind fun _ =>
  bd2 (fX8_number sh x1 0 40 mm) fun v7 m8 =>
  (aS sh m8 a5 ((v6 * 7) + x2) v7).bind fun m9 =>
  lt1 (x2 + 1) fun x2_10 =>
  some (.inl (x2_10, m9)))
def fX1_readFellow (sh : Shp) (x0 : Nat) (x1 : Nat) (mm : Mem) : Option (Mem) :=
  lt1 0 fun x2_3 =>
  (loopN (fun st : Int32 × Mem => fX1_readFellow_b2 sh x0 x1 st.1 st.2) FU (x2_3, mm)).bind (fun t => fX1_readFellow_j35 sh x0 t)
def fX1_readClause_j55 (sh : Shp) (x1 : Nat) (x3 : Int32) (mm : Mem) : Option (Mem) :=
  (isO sh 8 x1).bind fun _ =>
  bd2 (fX8_fail sh x1 3 x3 mm) fun v1 m2 =>
  some m2
def fX1_readClause_j138 (sh : Shp) (x1 : Nat) (mm : Mem) : Option (Mem) :=
  (isO sh 8 x1).bind fun _ =>
  bd2 (fX8_wants sh x1 59 mm) fun v3 m4 =>
  some m4
def fX1_readClause_j63 (sh : Shp) (x0 : Nat) (x1 : Nat) (x4 : Int32) (mm : Mem) : Option (Mem) :=
  if x4 = 0 then ((isO sh 1 x0).bind fun _ =>
  (fX1_readFellow sh x0 x1 mm).bind fun m22 =>
  fX1_readClause_j138 sh x1 m22)
  else (if x4 = 1 then ((rR sh 1 x0 1).bind fun a10 =>
  (rI sh mm 1 x0 4).bind fun v11 =>
  (isO sh 8 x1).bind fun _ =>
  bd2 (fX8_number sh x1 1 9 mm) fun v12 m13 =>
  (aS sh m13 a10 v11 v12).bind fun m14 =>
  (rR sh 1 x0 2).bind fun a15 =>
  (rI sh m14 1 x0 4).bind fun v16 =>
  (isO sh 8 x1).bind fun _ =>
  bd2 (fX8_number sh x1 0 1 m14) fun v17 m18 =>
  (aS sh m18 a15 v16 v17).bind fun m19 =>
  (rI sh m19 1 x0 4).bind fun v20 =>
  (wI sh m19 1 x0 4 (v20 + 1)).bind fun m21 =>
  fX1_readClause_j138 sh x1 m21)
  else ((isO sh 8 x1).bind fun _ =>
  bd2 (fX8_number sh x1 10 99 mm) fun v7 m8 =>
  (wI sh m8 1 x0 5 v7).bind fun m9 =>
  fX1_readClause_j138 sh x1 m9))
def fX1_readClause_j40 (sh : Shp) (x0 : Nat) (x1 : Nat) (x3 : Int32) (x4 : Int32) (mm : Mem) : Option (Mem) :=
  if x4 = 1 then ((rI sh mm 1 x0 4).bind fun v24 =>
  if v24 < 8 then (fX1_readClause_j63 sh x0 x1 x4 mm)
  else (fX1_readClause_j55 sh x1 x3 mm))
  else (fX1_readClause_j63 sh x0 x1 x4 mm)
def fX1_readClause (sh : Shp) (x0 : Nat) (x1 : Nat) (x2 : Int32) (mm : Mem) : Option (Mem) :=
  (isO sh 8 x1).bind fun _ =>
  bd2 (fX8_next sh x1 mm) fun v26 m27 =>
  lt1 v26 fun x3_28 =>
  (isO sh 8 x1).bind fun _ =>
  bd2 (fX8_word sh x1 1 m27) fun v29 m30 =>
  lt1 v29 fun x4_31 =>
  if x4_31 = (-1) then (some m30)
  else (if 60 ≤ x2 then (fX1_readClause_j55 sh x1 x3_28 m30)
  else (if x4_31 = 0 then ((rI sh m30 1 x0 3).bind fun v35 =>
  if 6 ≤ v35 then (fX1_readClause_j55 sh x1 x3_28 m30)
  else (fX1_readClause_j40 sh x0 x1 x3_28 x4_31 m30))
  else (fX1_readClause_j40 sh x0 x1 x3_28 x4_31 m30)))
def fX1_read_j60 (sh : Shp) (mm : Mem) : Option (Int32 × Mem) :=
  some (1, mm)
def fX1_read_j52 (sh : Shp) (mm : Mem) : Option (Int32 × Mem) :=
  some (0, mm)
def fX1_read_b26 (sh : Shp) (x0 : Nat) (x1 : Nat) (x2 : Int32) (mm : Mem) : Option ((Int32 × Mem) ⊕ ((Mem) ⊕ (Mem))) :=
  if 60 < x2 then (some (.inr (Sum.inr (mm))))
  else ((isO sh 8 x1).bind fun _ =>
  bd2 (fX8_ended sh x1 mm) fun v8 m9 =>
  if v8 = 0 then ((isO sh 1 x0).bind fun _ =>
  (fX1_readClause sh x0 x1 x2 m9).bind fun m11 =>
  (isO sh 8 x1).bind fun _ =>
  (fX8_isWhole sh x1 m11).bind fun v12 =>
  if v12 = 0 then (some (.inr (Sum.inl m11)))
  else (lt1 (x2 + 1) fun x2_14 =>
  some (.inl (x2_14, m11))))
  else (some (.inr (Sum.inr (m9)))))
def fX1_read (sh : Shp) (x0 : Nat) (x1 : Nat) (mm : Mem) : Option (Int32 × Mem) :=
  (wI sh mm 1 x0 3 0).bind fun m1 =>
  (wI sh m1 1 x0 4 0).bind fun m2 =>
  (wI sh m2 1 x0 5 60).bind fun m3 =>
  (rR sh 1 x0 0).bind fun a4 =>
  (fJ7_fill_53178 sh a4 0 m3).bind fun m5 =>
  lt1 0 fun x2_6 =>
  (loopN (fun st : Int32 × Mem => fX1_read_b26 sh x0 x1 st.1 st.2) FU (x2_6, m5)).bind (Sum.elim (fun t => fX1_read_j52 sh t) (fun t => fX1_read_j60 sh t))
def fX4_becomePlain (sh : Shp) (x0 : Nat) (mm : Mem) : Option (Mem) :=
  (rR sh 4 x0 0).bind fun a1 =>
  (aS sh mm a1 0 1000).bind fun m2 =>
  (rR sh 4 x0 0).bind fun a3 =>
  (aS sh m2 a3 1 1).bind fun m4 =>
  (rR sh 4 x0 0).bind fun a5 =>
  (aS sh m4 a5 2 1100).bind fun m6 =>
  (rR sh 4 x0 0).bind fun a7 =>
  (aS sh m6 a7 3 1002).bind fun m8 =>
  (rR sh 4 x0 0).bind fun a9 =>
  (aS sh m8 a9 4 1102).bind fun m10 =>
  (wI sh m10 4 x0 2 5).bind fun m11 =>
  some m11
def fX4_copyFrom (sh : Shp) (x0 : Nat) (x1 : Nat) (mm : Mem) : Option (Mem) :=
  (rR sh 4 x1 0).bind fun a1 =>
  (rR sh 4 x0 0).bind fun a2 =>
  (rR sh 4 x0 0).bind fun a3 =>
  (aN sh a3).bind fun v4 =>
  (aC sh mm a1 0 a2 0 v4).bind fun m5 =>
  (rI sh m5 4 x1 2).bind fun v6 =>
  (wI sh m5 4 x0 2 v6).bind fun m7 =>
  some m7
def fX8_seesDigit_j31 (sh : Shp) (s0 : Int32) (mm : Mem) : Option (Int32 × Mem) :=
  (ckZ s0).bind fun v1 => some (v1, mm)
def fX8_seesDigit_j30 (sh : Shp) (mm : Mem) : Option (Int32 × Mem) :=
  fX8_seesDigit_j31 sh 0 mm
def fX8_seesDigit (sh : Shp) (x0 : Nat) (mm : Mem) : Option (Int32 × Mem) :=
  (isO sh 8 x0).bind fun _ =>
  bd2 (fX8_next sh x0 mm) fun v2 m3 =>
  (rI sh m3 8 x0 2).bind fun v4 =>
  if v4 ≤ v2 then (fX8_seesDigit_j30 sh m3)
  else ((rR sh 8 x0 0).bind fun a6 =>
  (rI sh m3 8 x0 3).bind fun v7 =>
  (aL sh m3 a6 v7).bind fun v8 =>
  (fX8_isDigit v8).bind fun v9 =>
  if v9 = 0 then (fX8_seesDigit_j30 sh m3)
  else (fX8_seesDigit_j31 sh 1 m3))
def fX4_lay (sh : Shp) (x0 : Nat) (x1 : Int32) (mm : Mem) : Option (Int32 × Mem) :=
  (rI sh mm 4 x0 2).bind fun v1 =>
  (rR sh 4 x0 0).bind fun a2 =>
  (aN sh a2).bind fun v3 =>
  if v1 < v3 then ((rR sh 4 x0 0).bind fun a5 =>
  (rI sh mm 4 x0 2).bind fun v6 =>
  (aS sh mm a5 v6 x1).bind fun m7 =>
  (rI sh m7 4 x0 2).bind fun v8 =>
  (wI sh m7 4 x0 2 (v8 + 1)).bind fun m9 =>
  some (1, m9))
  else (some (0, mm))
def fX4_readUnit_j217 (sh : Shp) (S : Nat → Nat → Int32 → Mem → Option (Int32 × Mem)) (s0 : Int32) (mm : Mem) : Option (Int32 × Mem) :=
  (ckZ s0).bind fun v1 => some (v1, mm)
def fX4_readUnit_j216 (sh : Shp) (S : Nat → Nat → Int32 → Mem → Option (Int32 × Mem)) (mm : Mem) : Option (Int32 × Mem) :=
  fX4_readUnit_j217 sh S 0 mm
def fX4_readUnit_j206 (sh : Shp) (S : Nat → Nat → Int32 → Mem → Option (Int32 × Mem)) (s0 : Nat) (s1 : Int32) (mm : Mem) : Option (Int32 × Mem) :=
  (isO sh 4 s0).bind fun _ =>
  bd2 (fX4_lay sh s0 s1 mm) fun v2 m3 =>
  if v2 = 0 then (fX4_readUnit_j216 sh S m3)
  else (fX4_readUnit_j217 sh S 1 m3)
def fX4_readUnit_j92 (sh : Shp) (S : Nat → Nat → Int32 → Mem → Option (Int32 × Mem)) (s0 : Int32) (mm : Mem) : Option (Int32 × Mem) :=
  (ckZ s0).bind fun v5 => some (v5, mm)
def fX4_readUnit_j82 (sh : Shp) (S : Nat → Nat → Int32 → Mem → Option (Int32 × Mem)) (mm : Mem) : Option (Int32 × Mem) :=
  fX4_readUnit_j92 sh S 0 mm
def fX4_readUnit_j42 (sh : Shp) (S : Nat → Nat → Int32 → Mem → Option (Int32 × Mem)) (s0 : Int32) (mm : Mem) : Option (Int32 × Mem) :=
  (ckZ s0).bind fun v6 => some (v6, mm)
def fX4_readUnit_j41 (sh : Shp) (S : Nat → Nat → Int32 → Mem → Option (Int32 × Mem)) (mm : Mem) : Option (Int32 × Mem) :=
  fX4_readUnit_j42 sh S 0 mm
def fX4_readUnit_o (sh : Shp) (S : Nat → Nat → Int32 → Mem → Option (Int32 × Mem)) (x0 : Nat) (x1 : Nat) (x2 : Int32) (mm : Mem) : Option (Int32 × Mem) :=
  (isO sh 8 x1).bind fun _ =>
  bd2 (fX8_next sh x1 mm) fun v7 m8 =>
  lt1 v7 fun x3_9 =>
  (isO sh 8 x1).bind fun _ =>
  bd2 (fX8_seesDigit sh x1 m8) fun v10 m11 =>
  if v10 = 0 then ((isO sh 8 x1).bind fun _ =>
  bd2 (fX8_takes sh x1 40 m11) fun v13 m14 =>
  if v13 = 0 then ((isO sh 8 x1).bind fun _ =>
  bd2 (fX8_word sh x1 2 m14) fun v16 m17 =>
  lt1 v16 fun x4_18 =>
  if x4_18 = (-1) then (some (0, m17))
  else (if 8 ≤ x4_18 then (if x2 < 6 then ((isO sh 8 x1).bind fun _ =>
  bd2 (fX8_wants sh x1 91 m17) fun v22 m23 =>
  if v22 = 0 then (fX4_readUnit_j216 sh S m23)
  else ((isO sh 4 x0).bind fun _ =>
  bd2 (S x0 x1 (x2 + 1) m23) fun v25 m26 =>
  if v25 = 0 then (fX4_readUnit_j216 sh S m26)
  else ((isO sh 8 x1).bind fun _ =>
  bd2 (fX8_wants sh x1 44 m26) fun v28 m29 =>
  if v28 = 0 then (fX4_readUnit_j216 sh S m29)
  else ((isO sh 4 x0).bind fun _ =>
  bd2 (S x0 x1 (x2 + 1) m29) fun v31 m32 =>
  if v31 = 0 then (fX4_readUnit_j216 sh S m32)
  else ((isO sh 8 x1).bind fun _ =>
  bd2 (fX8_wants sh x1 93 m32) fun v34 m35 =>
  if v34 = 0 then (fX4_readUnit_j216 sh S m35)
  else (if x4_18 = 8 then (fX4_readUnit_j206 sh S x0 1105 m35)
  else (fX4_readUnit_j206 sh S x0 1106 m35)))))))
  else ((isO sh 8 x1).bind fun _ =>
  bd2 (fX8_fail sh x1 3 x3_9 m17) fun v38 m39 =>
  (ckZ v38).bind fun v40 => some (v40, m39)))
  else ((isO sh 4 x0).bind fun _ =>
  bd2 (fX4_lay sh x0 (1000 + x4_18) m17) fun v41 m42 =>
  (ckZ v41).bind fun v43 => some (v43, m42))))
  else (if 6 ≤ x2 then ((isO sh 8 x1).bind fun _ =>
  bd2 (fX8_fail sh x1 3 x3_9 m14) fun v45 m46 =>
  fX4_readUnit_j92 sh S v45 m46)
  else ((isO sh 4 x0).bind fun _ =>
  bd2 (S x0 x1 (x2 + 1) m14) fun v47 m48 =>
  if v47 = 0 then (fX4_readUnit_j82 sh S m48)
  else ((isO sh 8 x1).bind fun _ =>
  bd2 (fX8_wants sh x1 41 m48) fun v50 m51 =>
  if v50 = 0 then (fX4_readUnit_j82 sh S m51)
  else (fX4_readUnit_j92 sh S 1 m51)))))
  else ((isO sh 8 x1).bind fun _ =>
  bd2 (fX8_number sh x1 0 999 m11) fun v53 m54 =>
  lt1 v53 fun x4_55 =>
  if x4_55 = (-1) then (fX4_readUnit_j41 sh S m54)
  else ((isO sh 4 x0).bind fun _ =>
  bd2 (fX4_lay sh x0 x4_55 m54) fun v57 m58 =>
  if v57 = 0 then (fX4_readUnit_j41 sh S m58)
  else (fX4_readUnit_j42 sh S 1 m58)))
def fX4_readProduct_j108 (sh : Shp) (S : Nat → Nat → Int32 → Mem → Option (Int32 × Mem)) (x3 : Int32) (mm : Mem) : Option (Int32 × Mem) :=
  (ckZ x3).bind fun v1 => some (v1, mm)
def fX4_readProduct_j76 (sh : Shp) (S : Nat → Nat → Int32 → Mem → Option (Int32 × Mem)) (mm : Mem) : Option (Int32 × Mem) :=
  some (1, mm)
def fX4_readProduct_j101 (sh : Shp) (S : Nat → Nat → Int32 → Mem → Option (Int32 × Mem)) (x0 : Nat) (x1 : Nat) (x2 : Int32) (x4 : Int32) (s0 : Int32) (mm : Mem) : Option ((Int32 × Int32 × Mem) ⊕ ((Mem) ⊕ (Int32 × Mem))) :=
  lt1 s0 fun x3_6 =>
  lt1 (x4 + 1) fun x4_7 =>
  some (.inl (x3_6, x4_7, mm))
def fX4_readProduct_j100 (sh : Shp) (S : Nat → Nat → Int32 → Mem → Option (Int32 × Mem)) (x0 : Nat) (x1 : Nat) (x2 : Int32) (x4 : Int32) (mm : Mem) : Option ((Int32 × Int32 × Mem) ⊕ ((Mem) ⊕ (Int32 × Mem))) :=
  fX4_readProduct_j101 sh S x0 x1 x2 x4 0 mm
def fX4_readProduct_j68 (sh : Shp) (S : Nat → Nat → Int32 → Mem → Option (Int32 × Mem)) (x0 : Nat) (x1 : Nat) (x2 : Int32) (x4 : Int32) (s0 : Int32) (mm : Mem) : Option ((Int32 × Int32 × Mem) ⊕ ((Mem) ⊕ (Int32 × Mem))) :=
  lt1 s0 fun x5_8 =>
  if x5_8 = (-1) then (some (.inr (Sum.inl mm)))
  else ((isO sh 4 x0).bind fun _ =>
  bd2 (fX4_readUnit_o sh S x0 x1 x2 mm) fun v10 m11 =>
  if v10 = 0 then (fX4_readProduct_j100 sh S x0 x1 x2 x4 m11)
  else ((isO sh 4 x0).bind fun _ =>
  bd2 (fX4_lay sh x0 x5_8 m11) fun v13 m14 =>
  if v13 = 0 then (fX4_readProduct_j100 sh S x0 x1 x2 x4 m14)
  else (fX4_readProduct_j101 sh S x0 x1 x2 x4 1 m14)))
def fX4_readProduct_b10 (sh : Shp) (S : Nat → Nat → Int32 → Mem → Option (Int32 × Mem)) (x0 : Nat) (x1 : Nat) (x2 : Int32) (x3 : Int32) (x4 : Int32) (mm : Mem) : Option ((Int32 × Int32 × Mem) ⊕ ((Mem) ⊕ (Int32 × Mem))) :=
  if 150 ≤ x4 then (some (.inr (Sum.inr ((x3, mm)))))
  else (if x3 = 0 then (some (.inr (Sum.inr ((x3, mm)))))
  else ((isO sh 8 x1).bind fun _ =>
  bd2 (fX8_takes sh x1 42 mm) fun v18 m19 =>
  if v18 = 0 then ((isO sh 8 x1).bind fun _ =>
  bd2 (fX8_takes sh x1 47 m19) fun v21 m22 =>
  if v21 = 0 then ((isO sh 8 x1).bind fun _ =>
  bd2 (fX8_takes sh x1 37 m22) fun v24 m25 =>
  if v24 = 0 then (fX4_readProduct_j68 sh S x0 x1 x2 x4 (-1) m25)
  else (fX4_readProduct_j68 sh S x0 x1 x2 x4 1104 m25))
  else (fX4_readProduct_j68 sh S x0 x1 x2 x4 1103 m22))
  else (fX4_readProduct_j68 sh S x0 x1 x2 x4 1102 m19)))
def fX4_readProduct_o (sh : Shp) (S : Nat → Nat → Int32 → Mem → Option (Int32 × Mem)) (x0 : Nat) (x1 : Nat) (x2 : Int32) (mm : Mem) : Option (Int32 × Mem) :=
  (isO sh 4 x0).bind fun _ =>
  bd2 (fX4_readUnit_o sh S x0 x1 x2 mm) fun v2 m3 =>
  lt1 v2 fun x3_4 =>
  lt1 0 fun x4_5 =>
  (loopN (fun st : Int32 × Int32 × Mem => fX4_readProduct_b10 sh S x0 x1 x2 st.1 st.2.1 st.2.2) FU (x3_4, x4_5, m3)).bind (Sum.elim (fun t => fX4_readProduct_j76 sh S t) (fun t => fX4_readProduct_j108 sh S t.1 t.2))
def fX4_readSum_j93 (sh : Shp) (S : Nat → Nat → Int32 → Mem → Option (Int32 × Mem)) (x3 : Int32) (mm : Mem) : Option (Int32 × Mem) :=
  (ckZ x3).bind fun v1 => some (v1, mm)
def fX4_readSum_j61 (sh : Shp) (S : Nat → Nat → Int32 → Mem → Option (Int32 × Mem)) (mm : Mem) : Option (Int32 × Mem) :=
  some (1, mm)
def fX4_readSum_j86 (sh : Shp) (S : Nat → Nat → Int32 → Mem → Option (Int32 × Mem)) (x0 : Nat) (x1 : Nat) (x2 : Int32) (x4 : Int32) (s0 : Int32) (mm : Mem) : Option ((Int32 × Int32 × Mem) ⊕ ((Mem) ⊕ (Int32 × Mem))) :=
  lt1 s0 fun x3_6 =>
  lt1 (x4 + 1) fun x4_7 =>
  some (.inl (x3_6, x4_7, mm))
def fX4_readSum_j85 (sh : Shp) (S : Nat → Nat → Int32 → Mem → Option (Int32 × Mem)) (x0 : Nat) (x1 : Nat) (x2 : Int32) (x4 : Int32) (mm : Mem) : Option ((Int32 × Int32 × Mem) ⊕ ((Mem) ⊕ (Int32 × Mem))) :=
  fX4_readSum_j86 sh S x0 x1 x2 x4 0 mm
def fX4_readSum_j53 (sh : Shp) (S : Nat → Nat → Int32 → Mem → Option (Int32 × Mem)) (x0 : Nat) (x1 : Nat) (x2 : Int32) (x4 : Int32) (s0 : Int32) (mm : Mem) : Option ((Int32 × Int32 × Mem) ⊕ ((Mem) ⊕ (Int32 × Mem))) :=
  lt1 s0 fun x5_8 =>
  if x5_8 = (-1) then (some (.inr (Sum.inl mm)))
  else ((isO sh 4 x0).bind fun _ =>
  bd2 (fX4_readProduct_o sh S x0 x1 x2 mm) fun v10 m11 =>
  if v10 = 0 then (fX4_readSum_j85 sh S x0 x1 x2 x4 m11)
  else ((isO sh 4 x0).bind fun _ =>
  bd2 (fX4_lay sh x0 x5_8 m11) fun v13 m14 =>
  if v13 = 0 then (fX4_readSum_j85 sh S x0 x1 x2 x4 m14)
  else (fX4_readSum_j86 sh S x0 x1 x2 x4 1 m14)))
def fX4_readSum_b10 (sh : Shp) (S : Nat → Nat → Int32 → Mem → Option (Int32 × Mem)) (x0 : Nat) (x1 : Nat) (x2 : Int32) (x3 : Int32) (x4 : Int32) (mm : Mem) : Option ((Int32 × Int32 × Mem) ⊕ ((Mem) ⊕ (Int32 × Mem))) :=
  if 150 ≤ x4 then (some (.inr (Sum.inr ((x3, mm)))))
  else (if x3 = 0 then (some (.inr (Sum.inr ((x3, mm)))))
  else ((isO sh 8 x1).bind fun _ =>
  bd2 (fX8_takes sh x1 43 mm) fun v18 m19 =>
  if v18 = 0 then ((isO sh 8 x1).bind fun _ =>
  bd2 (fX8_takes sh x1 45 m19) fun v21 m22 =>
  if v21 = 0 then (fX4_readSum_j53 sh S x0 x1 x2 x4 (-1) m22)
  else (fX4_readSum_j53 sh S x0 x1 x2 x4 1101 m22))
  else (fX4_readSum_j53 sh S x0 x1 x2 x4 1100 m19)))
def fX4_readSum_o (sh : Shp) (S : Nat → Nat → Int32 → Mem → Option (Int32 × Mem)) (x0 : Nat) (x1 : Nat) (x2 : Int32) (mm : Mem) : Option (Int32 × Mem) :=
  (isO sh 4 x0).bind fun _ =>
  bd2 (fX4_readProduct_o sh S x0 x1 x2 mm) fun v2 m3 =>
  lt1 v2 fun x3_4 =>
  lt1 0 fun x4_5 =>
  (loopN (fun st : Int32 × Int32 × Mem => fX4_readSum_b10 sh S x0 x1 x2 st.1 st.2.1 st.2.2) FU (x3_4, x4_5, m3)).bind (Sum.elim (fun t => fX4_readSum_j61 sh S t) (fun t => fX4_readSum_j93 sh S t.1 t.2))
def fX4_readSum (sh : Shp) : Nat → Nat → Nat → Int32 → Mem → Option (Int32 × Mem)
  | 0 => fun _ _ _ _ => none
  | d + 1 => fun x0 x1 x2 mm => fX4_readSum_o sh (fX4_readSum sh d) x0 x1 x2 mm
def fX4_read_j38 (sh : Shp) (s0 : Int32) (mm : Mem) : Option (Int32 × Mem) :=
  (ckZ s0).bind fun v1 => some (v1, mm)
def fX4_read_j37 (sh : Shp) (mm : Mem) : Option (Int32 × Mem) :=
  fX4_read_j38 sh 0 mm
def fX4_read_j33 (sh : Shp) (mm : Mem) : Option (Int32 × Mem) :=
  fX4_read_j38 sh 1 mm
def fX4_read (sh : Shp) (x0 : Nat) (x1 : Nat) (mm : Mem) : Option (Int32 × Mem) :=
  (wI sh mm 4 x0 2 0).bind fun m2 =>
  (isO sh 4 x0).bind fun _ =>
  bd2 (fX4_readSum sh DP x0 x1 0 m2) fun v3 m4 =>
  if v3 = 0 then (fX4_read_j37 sh m4)
  else ((isO sh 8 x1).bind fun _ =>
  bd2 (fX8_ended sh x1 m4) fun v6 m7 =>
  if v6 = 0 then ((isO sh 8 x1).bind fun _ =>
  bd2 (fX8_next sh x1 m7) fun v9 m10 =>
  (isO sh 8 x1).bind fun _ =>
  bd2 (fX8_fail sh x1 1 v9 m10) fun v11 m12 =>
  if v11 = 0 then (fX4_read_j37 sh m12)
  else (fX4_read_j33 sh m12))
  else (fX4_read_j33 sh m7))
def fX4_joined_j63 (s0 : Int32) : Option (Int32) :=
  some s0
def fX4_joined_j75 (s0 : Int32) : Option (Int32) :=
  some s0
def fX4_joined_j86 (s0 : Int32) : Option (Int32) :=
  some s0
def fX4_joined_j97 (s0 : Int32) : Option (Int32) :=
  some s0
def fX4_joined (x0 : Int32) (x1 : Int32) (x2 : Int32) : Option (Int32) :=
  if x0 = 1100 then (some (x1 + x2))
  else if x0 = 1101 then (some (x1 - x2))
  else if x0 = 1102 then (some (x1 * x2))
  else if x0 = 1103 then (if x2 = 0 then (fX4_joined_j63 0)
  else ((dvI x1 x2).bind fun v5 =>
  fX4_joined_j63 v5))
  else if x0 = 1104 then (if x2 = 0 then (fX4_joined_j75 0)
  else ((rmI x1 x2).bind fun v8 =>
  fX4_joined_j75 v8))
  else if x0 = 1105 then (if x2 ≤ x1 then (fX4_joined_j86 x2)
  else (fX4_joined_j86 x1))
  else (if x1 ≤ x2 then (fX4_joined_j97 x2)
  else (fX4_joined_j97 x1))
def fX4_valueFor_j115 (sh : Shp) (x0 : Nat) (mm : Mem) : Option (Int32 × Mem) :=
  (rR sh 4 x0 1).bind fun a1 =>
  (aL sh mm a1 0).bind fun v2 =>
  some (v2, mm)
def fX4_valueFor_j37 (sh : Shp) (mm : Mem) : Option (Int32 × Mem) :=
  some (0, mm)
def fX4_valueFor_j77 (sh : Shp) (mm : Mem) : Option (Int32 × Mem) :=
  some (0, mm)
def fX4_valueFor_j109 (sh : Shp) (x0 : Nat) (x1 : Nat) (x2 : Int32) (x3 : Int32) (mm : Mem) : Option ((Int32 × Int32 × Mem) ⊕ ((Mem) ⊕ (Mem) ⊕ (Mem))) :=
  lt1 (x3 + 1) fun x3_5 =>
  some (.inl (x2, x3_5, mm))
def fX4_valueFor_j65 (sh : Shp) (x0 : Nat) (x1 : Nat) (x2 : Int32) (x3 : Int32) (s0 : Nat) (s1 : Int32) (s2 : Int32) (mm : Mem) : Option ((Int32 × Int32 × Mem) ⊕ ((Mem) ⊕ (Mem) ⊕ (Mem))) :=
  (aS sh mm s0 s1 s2).bind fun m6 =>
  lt1 (x2 + 1) fun x2_7 =>
  fX4_valueFor_j109 sh x0 x1 x2_7 x3 m6
def fX4_valueFor_b4 (sh : Shp) (x0 : Nat) (x1 : Nat) (x2 : Int32) (x3 : Int32) (mm : Mem) : Option ((Int32 × Int32 × Mem) ⊕ ((Mem) ⊕ (Mem) ⊕ (Mem))) :=
  (rI sh mm 4 x0 2).bind fun v8 =>
  if v8 ≤ x3 then (some (.inr (Sum.inr (Sum.inr (mm)))))
  else ((rR sh 4 x0 0).bind fun a10 =>
  (aL sh mm a10 x3).bind fun v11 =>
  lt1 v11 fun x4_12 =>
  if 1100 ≤ x4_12 then (if 2 ≤ x2 then (lt1 (x2 + (-1)) fun x2_15 =>
  (rR sh 4 x0 1).bind fun a16 =>
  (rR sh 4 x0 1).bind fun a17 =>
  (aL sh mm a17 (x2_15 - 1)).bind fun v18 =>
  (rR sh 4 x0 1).bind fun a19 =>
  (aL sh mm a19 x2_15).bind fun v20 =>
  (fX4_joined x4_12 v18 v20).bind fun v21 =>
  (aS sh mm a16 (x2_15 - 1) v21).bind fun m22 =>
  fX4_valueFor_j109 sh x0 x1 x2_15 x3 m22)
  else (some (.inr (Sum.inr (Sum.inl mm)))))
  else ((rR sh 4 x0 1).bind fun a23 =>
  (aN sh a23).bind fun v24 =>
  if x2 < v24 then ((rR sh 4 x0 1).bind fun a26 =>
  if 1000 ≤ x4_12 then ((aL sh mm x1 (x4_12 - 1000)).bind fun v28 =>
  fX4_valueFor_j65 sh x0 x1 x2 x3 a26 x2 v28 mm)
  else (fX4_valueFor_j65 sh x0 x1 x2 x3 a26 x2 x4_12 mm))
  else (some (.inr (Sum.inl mm)))))
def fX4_valueFor (sh : Shp) (x0 : Nat) (x1 : Nat) (mm : Mem) : Option (Int32 × Mem) :=
  lt1 0 fun x2_3 =>
  lt1 0 fun x3_4 =>
  (loopN (fun st : Int32 × Int32 × Mem => fX4_valueFor_b4 sh x0 x1 st.1 st.2.1 st.2.2) FU (x2_3, x3_4, mm)).bind (Sum.elim (fun t => fX4_valueFor_j37 sh t) (Sum.elim (fun t => fX4_valueFor_j77 sh t) (fun t => fX4_valueFor_j115 sh x0 t)))
def fX7_push_j32 (sh : Shp) (mm : Mem) : Option (Mem) :=
  some mm
def fX7_push (sh : Shp) (x0 : Nat) (x1 : Nat) (mm : Mem) : Option (Mem) :=
  (rI sh mm 7 x0 1).bind fun v1 =>
  if 16 ≤ v1 then (fX7_push_j32 sh mm)
  else ((rR sh 7 x0 0).bind fun a3 =>
  (rI sh mm 7 x0 1).bind fun v4 =>
  (aR sh a3 v4).bind fun a5 =>
  (isO sh 2 a5).bind fun _ =>
  (fX2_copyFrom sh a5 x1 mm).bind fun m6 =>
  (rI sh m6 7 x0 1).bind fun v7 =>
  (wI sh m6 7 x0 1 (v7 + 1)).bind fun m8 =>
  fX7_push_j32 sh m8)
def fX7_popInto_j30 (sh : Shp) (mm : Mem) : Option (Mem) :=
  some mm
def fX7_popInto (sh : Shp) (x0 : Nat) (x1 : Nat) (mm : Mem) : Option (Mem) :=
  (rI sh mm 7 x0 1).bind fun v1 =>
  if v1 ≤ 0 then (fX7_popInto_j30 sh mm)
  else ((rI sh mm 7 x0 1).bind fun v3 =>
  (wI sh mm 7 x0 1 (v3 - 1)).bind fun m4 =>
  (rR sh 7 x0 0).bind fun a5 =>
  (rI sh m4 7 x0 1).bind fun v6 =>
  (aR sh a5 v6).bind fun a7 =>
  (isO sh 2 x1).bind fun _ =>
  (fX2_copyFrom sh x1 a7 m4).bind fun m8 =>
  fX7_popInto_j30 sh m8)
def fX7_copyFrom_j39 (sh : Shp) (mm : Mem) : Option (Mem) :=
  some mm
def fX7_copyFrom_b10 (sh : Shp) (x0 : Nat) (x1 : Nat) (x2 : Int32) (mm : Mem) : Option ((Int32 × Mem) ⊕ ((Mem))) :=
  (rI sh mm 7 x0 1).bind fun v4 =>
  if v4 ≤ x2 then (some (.inr mm))
  else ((rR sh 7 x0 0).bind fun a6 =>
  (aR sh a6 x2).bind fun a7 =>
  (rR sh 7 x1 0).bind fun a8 =>
  (aR sh a8 x2).bind fun a9 =>
  (isO sh 2 a7).bind fun _ =>
  (fX2_copyFrom sh a7 a9 mm).bind fun m10 =>
  lt1 (x2 + 1) fun x2_11 =>
  some (.inl (x2_11, m10)))
def fX7_copyFrom (sh : Shp) (x0 : Nat) (x1 : Nat) (mm : Mem) : Option (Mem) :=
  (rI sh mm 7 x1 1).bind fun v1 =>
  (wI sh mm 7 x0 1 v1).bind fun m2 =>
  lt1 0 fun x2_3 =>
  (loopN (fun st : Int32 × Mem => fX7_copyFrom_b10 sh x0 x1 st.1 st.2) FU (x2_3, m2)).bind (fun t => fX7_copyFrom_j39 sh t)
def fX8_put_j49 (sh : Shp) (mm : Mem) : Option (Mem) :=
  some mm
def fX8_put_b3 (sh : Shp) (x0 : Nat) (x1 : Int32) (x2 : Int32) (mm : Mem) : Option ((Int32 × Mem) ⊕ ((Mem))) :=
  if x2 < 0 then (some (.inr mm))
  else ((rI sh mm 8 x0 1).bind fun v3 =>
  if 600 ≤ v3 then (some (.inr mm))
  else ((rR sh 8 x0 0).bind fun a5 =>
  (rI sh mm 8 x0 1).bind fun v6 =>
  (aS sh mm a5 v6 ((uShr x1 x2) &&& 255)).bind fun m7 =>
  (rI sh m7 8 x0 1).bind fun v8 =>
  (wI sh m7 8 x0 1 (v8 + 1)).bind fun m9 =>
  lt1 (x2 + (-8)) fun x2_10 =>
  some (.inl (x2_10, m9))))
def fX8_put (sh : Shp) (x0 : Nat) (x1 : Int32) (mm : Mem) : Option (Mem) :=
  lt1 24 fun x2_1 =>
  (loopN (fun st : Int32 × Mem => fX8_put_b3 sh x0 x1 st.1 st.2) FU (x2_1, mm)).bind (fun t => fX8_put_j49 sh t)
def fX8_open (sh : Shp) (x0 : Nat) (x1 : Int32) (mm : Mem) : Option (Mem) :=
  (wI sh mm 8 x0 2 x1).bind fun m1 =>
  (wI sh m1 8 x0 3 0).bind fun m2 =>
  (wI sh m2 8 x0 1 0).bind fun m3 =>
  (wI sh m3 8 x0 4 0).bind fun m4 =>
  (wI sh m4 8 x0 5 (-1)).bind fun m5 =>
  some m5
def fX8_sees_j29 (sh : Shp) (s0 : Int32) (mm : Mem) : Option (Int32 × Mem) :=
  (ckZ s0).bind fun v1 => some (v1, mm)
def fX8_sees_j28 (sh : Shp) (mm : Mem) : Option (Int32 × Mem) :=
  fX8_sees_j29 sh 0 mm
def fX8_sees (sh : Shp) (x0 : Nat) (x1 : Int32) (mm : Mem) : Option (Int32 × Mem) :=
  (isO sh 8 x0).bind fun _ =>
  bd2 (fX8_next sh x0 mm) fun v2 m3 =>
  (rI sh m3 8 x0 2).bind fun v4 =>
  if v4 ≤ v2 then (fX8_sees_j28 sh m3)
  else ((rR sh 8 x0 0).bind fun a6 =>
  (rI sh m3 8 x0 3).bind fun v7 =>
  (aL sh m3 a6 v7).bind fun v8 =>
  if v8 = x1 then (fX8_sees_j29 sh 1 m3)
  else (fX8_sees_j28 sh m3))
set_option maxHeartbeats 4000000 in
set_option maxRecDepth 100000 in
theorem wX0_copyFrom {p : Program} {l : Launch} {e : Env} {R : Room} {s : State} {m : MethodId} {args : Array Value} {below : List Frame} {meth : Method} {c : Code} {Q : State → Prop} {E : Ev} (X : Cx p s m args c cX0_copyFrom RX0 E) (hml : c.maxLocals = 2) (hR : 1 ≤ R.frames ∧ 60 ≤ R.locals) {x0 : Nat} {x1 : Nat} {mm : Mem} {mm1 : Mem} (hf : fX0_copyFrom (eS E) x0 x1 mm = some mm1) (hret : ∀ (pc : Nat) (H : Heap) (locs : List Loc) (ls : Array Slot), decode cX0_copyFrom pc = .ok (.return_, 1) → wS E s mm1 H locs → W p l e R s m args below meth c H locs 0 0 Q (F0 m pc ls [])) : ∀ (H : Heap) (locs : List Loc) (ls : Array Slot), wS E s mm H locs → lv_has ls 2 [(0, .ref x0), (1, .ref x1)] → W p l e R s m args below meth c H locs 0 0 Q (F0 m 0 ls []) := by
  have hx := X.1
  have hb := X.2.1
  have hR1 := hR.1
  have hR2 := hR.2
  have hRa : 1 ≤ R.frames := by omega
  have hRb : 60 ≤ R.locals := by omega
  unfold fX0_copyFrom at hf
  intro H locs ls hS hl
  refine lv_aload_n hx hb dX0_copyFrom_0 rfl (lv_at hl 1 rfl) ?_
  obtain ⟨a1, h1, hf⟩ := bs hf
  refine am_gr X hS fl_X0_9 rfl h1 dX0_copyFrom_1 ?_
  refine lv_iconst (v := 0) hx hb dX0_copyFrom_4 (by decide) ?_
  refine lv_aload_n hx hb dX0_copyFrom_5 rfl (lv_at hl 0 rfl) ?_
  obtain ⟨a2, h1, hf⟩ := bs hf
  refine am_gr X hS fl_X0_9 rfl h1 dX0_copyFrom_6 ?_
  refine lv_iconst (v := 0) hx hb dX0_copyFrom_9 (by decide) ?_
  refine lv_bipush (v := 8) hx hb dX0_copyFrom_10 (by decide) ?_
  obtain ⟨m3, h1, hf⟩ := bs hf
  refine am_cpy X (hml.trans hl.1.symm) hS h1 (inBi 935 (by decide +kernel)) (inBi 521 (by decide +kernel)) (inBi 520 (by decide +kernel)) (inBi 118 (by decide +kernel)) (Nat.le_trans (by decide) hRa) (Nat.le_trans (by decide) hRb) dX0_copyFrom_12 (fun H locs hS => ?_)
  refine lv_aload_n hx hb dX0_copyFrom_15 rfl (lv_at hl 1 rfl) ?_
  obtain ⟨a4, h1, hf⟩ := bs hf
  refine am_gr X hS fl_X0_15 rfl h1 dX0_copyFrom_16 ?_
  refine lv_iconst (v := 0) hx hb dX0_copyFrom_19 (by decide) ?_
  refine lv_aload_n hx hb dX0_copyFrom_20 rfl (lv_at hl 0 rfl) ?_
  obtain ⟨a5, h1, hf⟩ := bs hf
  refine am_gr X hS fl_X0_15 rfl h1 dX0_copyFrom_21 ?_
  refine lv_iconst (v := 0) hx hb dX0_copyFrom_24 (by decide) ?_
  refine lv_bipush (v := 8) hx hb dX0_copyFrom_25 (by decide) ?_
  obtain ⟨m6, h1, hf⟩ := bs hf
  refine am_cpy X (hml.trans hl.1.symm) hS h1 (inBi 935 (by decide +kernel)) (inBi 521 (by decide +kernel)) (inBi 520 (by decide +kernel)) (inBi 118 (by decide +kernel)) (Nat.le_trans (by decide) hRa) (Nat.le_trans (by decide) hRb) dX0_copyFrom_27 (fun H locs hS => ?_)
  refine lv_aload_n hx hb dX0_copyFrom_30 rfl (lv_at hl 0 rfl) ?_
  refine lv_aload_n hx hb dX0_copyFrom_31 rfl (lv_at hl 1 rfl) ?_
  obtain ⟨v7, h1, hf⟩ := bs hf
  refine am_gi X hS fl_X0_24 rfl h1 dX0_copyFrom_32 ?_
  obtain ⟨m8, h1, hf⟩ := bs hf
  refine am_pi X hS fp_X0_24 rfl h1 dX0_copyFrom_35 (fun H locs hS => ?_)
  cases hf
  exact hret _ _ _ _ dX0_copyFrom_38 hS
set_option maxRecDepth 100000 in
theorem cX0_copyFrom_ok {l : Launch} {E : Ev} {x0 : Nat} {x1 : Nat} {mm : Mem} {mm1 : Mem} (hf : fX0_copyFrom (eS E) x0 x1 mm = some mm1) : CtV l yX0_copyFrom cX0_copyFrom 2 none (1) (60) E [.ref x0, .ref x1] mm mm1 := by
  refine Met.ofW (cc := cX0_copyFrom) (maxL := 2) (ret := none) (by decide) rfl ?_
  intro p e s m args below meth c s₁ B hml hv
  obtain ⟨rfl, X, hS, hr, hlocks⟩ := am_in B hv
  refine am_entry (Nat.le_of_ble_eq_true rfl) (fun ls hl => ?_)
  exact wX0_copyFrom X hml ⟨Nat.le_refl _, Nat.le_refl _⟩ hf (fun pc H locs ls hd hS => am_rv X hS hr hd hlocks) _ _ ls hS hl
set_option maxHeartbeats 4000000 in
set_option maxRecDepth 100000 in
theorem wX8_next {p : Program} {l : Launch} {e : Env} {R : Room} {s : State} {m : MethodId} {args : Array Value} {below : List Frame} {meth : Method} {c : Code} {Q : State → Prop} {E : Ev} (X : Cx p s m args c cX8_next RX8 E) (hml : c.maxLocals = 1) (hR : 0 ≤ R.frames ∧ 0 ≤ R.locals) {x0 : Nat} {mm : Mem} {r : Int32} {mm1 : Mem} (hf : fX8_next (eS E) x0 mm = some (r, mm1)) (hret : ∀ (pc : Nat) (H : Heap) (locs : List Loc) (ls : Array Slot), narrow .int (.int r) = .int r → decode cX8_next pc = .ok (.ireturn, 1) → wS E s mm1 H locs → W p l e R s m args below meth c H locs 0 0 Q (F0 m pc ls [.int r])) : ∀ (H : Heap) (locs : List Loc) (ls : Array Slot), wS E s mm H locs → lv_has ls 1 [(0, .ref x0)] → W p l e R s m args below meth c H locs 0 0 Q (F0 m 0 ls []) := by
  have hx := X.1
  have hb := X.2.1
  have hR1 := hR.1
  have hR2 := hR.2
  have hRa : 0 ≤ R.frames := by omega
  have hRb : 0 ≤ R.locals := by omega
  unfold fX8_next at hf
  have hj38 : ∀ (x0 : Nat) (mm : Mem) (H : Heap) (locs : List Loc) (ls : Array Slot), fX8_next_j38 (eS E) x0 mm = some (r, mm1) → wS E s mm H locs → lv_has ls 1 [(0, .ref x0)] → W p l e R s m args below meth c H locs 0 0 Q (F0 m 38 ls []) := by
    intro x0 mm H locs ls hf hS hl
    unfold fX8_next_j38 at hf
    refine lv_aload_n hx hb dX8_next_38 rfl (lv_at hl 0 rfl) ?_
    obtain ⟨v1, h1, hf⟩ := bs hf
    refine am_gi X hS fl_X8_25 rfl h1 dX8_next_39 ?_
    cases hf
    exact hret _ _ _ _ rfl dX8_next_42 hS
  intro H locs ls hS hl
  obtain ⟨ex0, hl0, hk0⟩ := bs hf
  refine loop_W (P := fun st => ∀ (H : Heap) (locs : List Loc) (ls : Array Slot), wS E s st H locs → lv_has ls 1 [(0, .ref x0)] → W p l e R s m args below meth c H locs 0 0 Q (F0 m 0 ls [])) (ex := ex0) ?_ FU _ hl0 H locs ls hS hl
  intro st y0 hf hyL0 hyR0 H locs ls hS hl
  obtain ⟨mm, rfl⟩ : ∃ z, z = st := ⟨_, rfl⟩
  have hf : fX8_next_b0 (eS E) x0 mm = some y0 := hf
  have hS : wS E s mm H locs := hS
  have hl : lv_has ls 1 [(0, .ref x0)] := hl
  unfold fX8_next_b0 at hf
  refine lv_aload_n hx hb dX8_next_0 rfl (lv_at hl 0 rfl) ?_
  obtain ⟨v2, h1, hf⟩ := bs hf
  refine am_gi X hS fl_X8_25 rfl h1 dX8_next_1 ?_
  refine lv_aload_n hx hb dX8_next_4 rfl (lv_at hl 0 rfl) ?_
  obtain ⟨v3, h1, hf⟩ := bs hf
  refine am_gi X hS fl_X8_22 rfl h1 dX8_next_5 ?_
  refine lv_icmp_ge (tgt := 38) hx hb dX8_next_8 (by decide) (fun q4 => ?_) (fun q4 => ?_)
  · have hf := ifp hf q4
    obtain rfl : mm = ex0 := hyR0 _ (Option.some.inj hf).symm
    exact hj38 x0 mm H locs ls hk0 hS hl
  · have hf := ifn hf q4
    refine lv_aload_n hx hb dX8_next_11 rfl (lv_at hl 0 rfl) ?_
    obtain ⟨a5, h1, hf⟩ := bs hf
    refine am_gr X hS fl_X8_9 rfl h1 dX8_next_12 ?_
    refine lv_aload_n hx hb dX8_next_15 rfl (lv_at hl 0 rfl) ?_
    obtain ⟨v6, h1, hf⟩ := bs hf
    refine am_gi X hS fl_X8_25 rfl h1 dX8_next_16 ?_
    obtain ⟨v7, h1, hf⟩ := bs hf
    refine am_ald X hS h1 dX8_next_19 ?_
    refine lv_bipush (v := 32) hx hb dX8_next_20 (by decide) ?_
    refine lv_icmp_ne (tgt := 38) hx hb dX8_next_22 (by decide) (fun q8 => ?_) (fun q8 => ?_)
    · have hf := ifn hf q8
      obtain rfl : mm = ex0 := hyR0 _ (Option.some.inj hf).symm
      exact hj38 x0 mm H locs ls hk0 hS hl
    · have hf := ifp hf q8
      refine lv_aload_n hx hb dX8_next_25 rfl (lv_at hl 0 rfl) ?_
      refine lv_dup hx hb dX8_next_26 rfl ?_
      obtain ⟨v9, h1, hf⟩ := bs hf
      refine am_gi X hS fl_X8_25 rfl h1 dX8_next_27 ?_
      refine lv_iconst (v := 1) hx hb dX8_next_30 (by decide) ?_
      refine lv_iadd hx hb dX8_next_31 ?_
      obtain ⟨m10, h1, hf⟩ := bs hf
      refine am_pi X hS fp_X8_25 rfl h1 dX8_next_32 (fun H locs hS => ?_)
      refine lv_goto (tgt := 0) hx hb dX8_next_35 (by decide) ?_
      exact hyL0 _ (Option.some.inj hf).symm H locs ls hS hl
set_option maxRecDepth 100000 in
theorem cX8_next_ok {l : Launch} {E : Ev} {x0 : Nat} {mm : Mem} {r : Int32} {mm1 : Mem} (hf : fX8_next (eS E) x0 mm = some (r, mm1)) : CtI l yX8_next cX8_next 1 (some .int) (0) (0) E [.ref x0] mm r mm1 := by
  refine Met.ofW (cc := cX8_next) (maxL := 1) (ret := (some .int)) (by decide) rfl ?_
  intro p e s m args below meth c s₁ B hml hv
  obtain ⟨rfl, X, hS, hr, hlocks⟩ := am_in B hv
  refine am_entry (Nat.le_of_ble_eq_true rfl) (fun ls hl => ?_)
  exact wX8_next X hml ⟨Nat.le_refl _, Nat.le_refl _⟩ hf (fun pc H locs ls hn hd hS => am_ri X hS hr hn hd hlocks) _ _ ls hS hl
set_option maxHeartbeats 4000000 in
set_option maxRecDepth 100000 in
theorem wX8_ended {p : Program} {l : Launch} {e : Env} {R : Room} {s : State} {m : MethodId} {args : Array Value} {below : List Frame} {meth : Method} {c : Code} {Q : State → Prop} {E : Ev} (X : Cx p s m args c cX8_ended RX8 E) (hml : c.maxLocals = 1) (hR : 1 ≤ R.frames ∧ 20 ≤ R.locals) {x0 : Nat} {mm : Mem} {r : Int32} {mm1 : Mem} (hf : fX8_ended (eS E) x0 mm = some (r, mm1)) (hret : ∀ (pc : Nat) (H : Heap) (locs : List Loc) (ls : Array Slot), narrow .boolean (.int r) = .int r → decode cX8_ended pc = .ok (.ireturn, 1) → wS E s mm1 H locs → W p l e R s m args below meth c H locs 0 0 Q (F0 m pc ls [.int r])) : ∀ (H : Heap) (locs : List Loc) (ls : Array Slot), wS E s mm H locs → lv_has ls 1 [(0, .ref x0)] → W p l e R s m args below meth c H locs 0 0 Q (F0 m 0 ls []) := by
  have hx := X.1
  have hb := X.2.1
  have hR1 := hR.1
  have hR2 := hR.2
  have hRa : 1 ≤ R.frames := by omega
  have hRb : 20 ≤ R.locals := by omega
  unfold fX8_ended at hf
  have hj16 : ∀ (s0 : Int32) (mm : Mem) (H : Heap) (locs : List Loc) (ls : Array Slot), fX8_ended_j16 (eS E) s0 mm = some (r, mm1) → wS E s mm H locs → lv_has ls 1 [] → W p l e R s m args below meth c H locs 0 0 Q (F0 m 16 ls [.int s0]) := by
    intro s0 mm H locs ls hf hS hl
    unfold fX8_ended_j16 at hf
    obtain ⟨v1, h1, hf⟩ := bs hf
    obtain ⟨rfl, h2⟩ := ckZ_n h1
    cases hf
    exact hret _ _ _ _ h2 dX8_ended_16 hS
  intro H locs ls hS hl
  refine lv_aload_n hx hb dX8_ended_0 rfl (lv_at hl 0 rfl) ?_
  obtain ⟨u0, h0, hf⟩ := bs hf
  obtain ⟨_, hrc⟩ := isO_n h0
  obtain ⟨v2, m3, h1, hf⟩ := bs2 hf
  refine am_endi hS (am_runV (As := []) X (hml.trans hl.1.symm) hS (cX8_next_ok (l := l) (E := E) h1) mv_X8_31 hrc rfl ⟨Nat.le_trans (by decide) hRa, Nat.le_trans (by decide) hRb⟩ ⟨Nat.zero_le _, Nat.zero_le _⟩ rfl rfl (Nat.le_of_ble_eq_true rfl) dX8_ended_1) (fun H locs hS => ?_)
  refine lv_aload_n hx hb dX8_ended_4 rfl (lv_at hl 0 rfl) ?_
  obtain ⟨v4, h1, hf⟩ := bs hf
  refine am_gi X hS fl_X8_22 rfl h1 dX8_ended_5 ?_
  refine lv_icmp_lt (tgt := 15) hx hb dX8_ended_8 (by decide) (fun q5 => ?_) (fun q5 => ?_)
  · have hf := ifp hf q5
    refine lv_iconst (v := 0) hx hb dX8_ended_15 (by decide) ?_
    exact hj16 0 m3 H locs ls hf hS (lv_sub hl [] rfl)
  · have hf := ifn hf q5
    refine lv_iconst (v := 1) hx hb dX8_ended_11 (by decide) ?_
    refine lv_goto (tgt := 16) hx hb dX8_ended_12 (by decide) ?_
    exact hj16 1 m3 H locs ls hf hS (lv_sub hl [] rfl)
set_option maxRecDepth 100000 in
theorem cX8_ended_ok {l : Launch} {E : Ev} {x0 : Nat} {mm : Mem} {r : Int32} {mm1 : Mem} (hf : fX8_ended (eS E) x0 mm = some (r, mm1)) : CtI l yX8_ended cX8_ended 1 (some .boolean) (1) (20) E [.ref x0] mm r mm1 := by
  refine Met.ofW (cc := cX8_ended) (maxL := 1) (ret := (some .boolean)) (by decide) rfl ?_
  intro p e s m args below meth c s₁ B hml hv
  obtain ⟨rfl, X, hS, hr, hlocks⟩ := am_in B hv
  refine am_entry (Nat.le_of_ble_eq_true rfl) (fun ls hl => ?_)
  exact wX8_ended X hml ⟨Nat.le_refl _, Nat.le_refl _⟩ hf (fun pc H locs ls hn hd hS => am_ri X hS hr hn hd hlocks) _ _ ls hS hl
set_option maxHeartbeats 4000000 in
set_option maxRecDepth 100000 in
theorem wX8_isDigit {p : Program} {l : Launch} {e : Env} {R : Room} {s : State} {m : MethodId} {args : Array Value} {below : List Frame} {meth : Method} {c : Code} {Q : State → Prop} {E : Ev} (X : Cx p s m args c cX8_isDigit RX8 E) (hml : c.maxLocals = 1) (hR : 0 ≤ R.frames ∧ 0 ≤ R.locals) {x0 : Int32} {mm : Mem} {r : Int32} (hf : fX8_isDigit x0 = some r) (hret : ∀ (pc : Nat) (H : Heap) (locs : List Loc) (ls : Array Slot), narrow .boolean (.int r) = .int r → decode cX8_isDigit pc = .ok (.ireturn, 1) → wS E s mm H locs → W p l e R s m args below meth c H locs 0 0 Q (F0 m pc ls [.int r])) : ∀ (H : Heap) (locs : List Loc) (ls : Array Slot), wS E s mm H locs → lv_has ls 1 [(0, .int x0)] → W p l e R s m args below meth c H locs 0 0 Q (F0 m 0 ls []) := by
  have hx := X.1
  have hb := X.2.1
  have hR1 := hR.1
  have hR2 := hR.2
  have hRa : 0 ≤ R.frames := by omega
  have hRb : 0 ≤ R.locals := by omega
  unfold fX8_isDigit at hf
  have hj17 : ∀ (s0 : Int32) (H : Heap) (locs : List Loc) (ls : Array Slot), fX8_isDigit_j17 s0 = some r → wS E s mm H locs → lv_has ls 1 [] → W p l e R s m args below meth c H locs 0 0 Q (F0 m 17 ls [.int s0]) := by
    intro s0 H locs ls hf hS hl
    unfold fX8_isDigit_j17 at hf
    obtain ⟨v1, h1, hf⟩ := bs hf
    obtain ⟨rfl, h2⟩ := ckZ_n h1
    cases hf
    exact hret _ _ _ _ h2 dX8_isDigit_17 hS
  have hj16 : ∀ (H : Heap) (locs : List Loc) (ls : Array Slot), fX8_isDigit_j16 = some r → wS E s mm H locs → lv_has ls 1 [] → W p l e R s m args below meth c H locs 0 0 Q (F0 m 16 ls []) := by
    intro H locs ls hf hS hl
    unfold fX8_isDigit_j16 at hf
    refine lv_iconst (v := 0) hx hb dX8_isDigit_16 (by decide) ?_
    exact hj17 0 H locs ls hf hS hl
  intro H locs ls hS hl
  refine lv_iload_n hx hb dX8_isDigit_0 rfl (lv_at hl 0 rfl) ?_
  refine lv_bipush (v := 48) hx hb dX8_isDigit_1 (by decide) ?_
  refine lv_icmp_lt (tgt := 16) hx hb dX8_isDigit_3 (by decide) (fun q2 => ?_) (fun q2 => ?_)
  · have hf := ifp hf q2
    exact hj16  H locs ls hf hS (lv_sub hl [] rfl)
  · have hf := ifn hf q2
    refine lv_iload_n hx hb dX8_isDigit_6 rfl (lv_at hl 0 rfl) ?_
    refine lv_bipush (v := 57) hx hb dX8_isDigit_7 (by decide) ?_
    refine lv_icmp_gt (tgt := 16) hx hb dX8_isDigit_9 (by decide) (fun q3 => ?_) (fun q3 => ?_)
    · have hf := ifp hf q3
      exact hj16  H locs ls hf hS (lv_sub hl [] rfl)
    · have hf := ifn hf q3
      refine lv_iconst (v := 1) hx hb dX8_isDigit_12 (by decide) ?_
      refine lv_goto (tgt := 17) hx hb dX8_isDigit_13 (by decide) ?_
      exact hj17 1 H locs ls hf hS (lv_sub hl [] rfl)
set_option maxRecDepth 100000 in
theorem cX8_isDigit_ok {l : Launch} {E : Ev} {x0 : Int32} {mm : Mem} {r : Int32} (hf : fX8_isDigit x0 = some r) : CtI l yX8_isDigit cX8_isDigit 1 (some .boolean) (0) (0) E [.int x0] mm r mm := by
  refine Met.ofW (cc := cX8_isDigit) (maxL := 1) (ret := (some .boolean)) (by decide) rfl ?_
  intro p e s m args below meth c s₁ B hml hv
  obtain ⟨rfl, X, hS, hr, hlocks⟩ := am_in B hv
  refine am_entry (Nat.le_of_ble_eq_true rfl) (fun ls hl => ?_)
  exact wX8_isDigit X hml ⟨Nat.le_refl _, Nat.le_refl _⟩ hf (fun pc H locs ls hn hd hS => am_ri X hS hr hn hd hlocks) _ _ ls hS hl
set_option maxHeartbeats 4000000 in
set_option maxRecDepth 100000 in
theorem wX8_fail {p : Program} {l : Launch} {e : Env} {R : Room} {s : State} {m : MethodId} {args : Array Value} {below : List Frame} {meth : Method} {c : Code} {Q : State → Prop} {E : Ev} (X : Cx p s m args c cX8_fail RX8 E) (hml : c.maxLocals = 3) (hR : 0 ≤ R.frames ∧ 0 ≤ R.locals) {x0 : Nat} {x1 : Int32} {x2 : Int32} {mm : Mem} {r : Int32} {mm1 : Mem} (hf : fX8_fail (eS E) x0 x1 x2 mm = some (r, mm1)) (hret : ∀ (pc : Nat) (H : Heap) (locs : List Loc) (ls : Array Slot), narrow .boolean (.int r) = .int r → decode cX8_fail pc = .ok (.ireturn, 1) → wS E s mm1 H locs → W p l e R s m args below meth c H locs 0 0 Q (F0 m pc ls [.int r])) : ∀ (H : Heap) (locs : List Loc) (ls : Array Slot), wS E s mm H locs → lv_has ls 3 [(0, .ref x0), (1, .int x1), (2, .int x2)] → W p l e R s m args below meth c H locs 0 0 Q (F0 m 0 ls []) := by
  have hx := X.1
  have hb := X.2.1
  have hR1 := hR.1
  have hR2 := hR.2
  have hRa : 0 ≤ R.frames := by omega
  have hRb : 0 ≤ R.locals := by omega
  unfold fX8_fail at hf
  have hj17 : ∀ (mm : Mem) (H : Heap) (locs : List Loc) (ls : Array Slot), fX8_fail_j17 (eS E) mm = some (r, mm1) → wS E s mm H locs → lv_has ls 3 [] → W p l e R s m args below meth c H locs 0 0 Q (F0 m 17 ls []) := by
    intro mm H locs ls hf hS hl
    unfold fX8_fail_j17 at hf
    refine lv_iconst (v := 0) hx hb dX8_fail_17 (by decide) ?_
    cases hf
    exact hret _ _ _ _ rfl dX8_fail_18 hS
  intro H locs ls hS hl
  refine lv_aload_n hx hb dX8_fail_0 rfl (lv_at hl 0 rfl) ?_
  obtain ⟨v1, h1, hf⟩ := bs hf
  refine am_gi X hS fl_X8_28 rfl h1 dX8_fail_1 ?_
  refine lv_if_ne (tgt := 17) hx hb dX8_fail_4 (by decide) (fun q2 => ?_) (fun q2 => ?_)
  · have hf := ifn hf q2
    exact hj17 mm H locs ls hf hS (lv_sub hl [] rfl)
  · have hf := ifp hf q2
    refine lv_aload_n hx hb dX8_fail_7 rfl (lv_at hl 0 rfl) ?_
    refine lv_iload_n hx hb dX8_fail_8 rfl (lv_at hl 1 rfl) ?_
    obtain ⟨m3, h1, hf⟩ := bs hf
    refine am_pi X hS fp_X8_28 rfl h1 dX8_fail_9 (fun H locs hS => ?_)
    refine lv_aload_n hx hb dX8_fail_12 rfl (lv_at hl 0 rfl) ?_
    refine lv_iload_n hx hb dX8_fail_13 rfl (lv_at hl 2 rfl) ?_
    obtain ⟨m4, h1, hf⟩ := bs hf
    refine am_pi X hS fp_X8_15 rfl h1 dX8_fail_14 (fun H locs hS => ?_)
    exact hj17 m4 H locs ls hf hS (lv_sub hl [] rfl)
set_option maxRecDepth 100000 in
theorem cX8_fail_ok {l : Launch} {E : Ev} {x0 : Nat} {x1 : Int32} {x2 : Int32} {mm : Mem} {r : Int32} {mm1 : Mem} (hf : fX8_fail (eS E) x0 x1 x2 mm = some (r, mm1)) : CtI l yX8_fail cX8_fail 3 (some .boolean) (0) (0) E [.ref x0, .int x1, .int x2] mm r mm1 := by
  refine Met.ofW (cc := cX8_fail) (maxL := 3) (ret := (some .boolean)) (by decide) rfl ?_
  intro p e s m args below meth c s₁ B hml hv
  obtain ⟨rfl, X, hS, hr, hlocks⟩ := am_in B hv
  refine am_entry (Nat.le_of_ble_eq_true rfl) (fun ls hl => ?_)
  exact wX8_fail X hml ⟨Nat.le_refl _, Nat.le_refl _⟩ hf (fun pc H locs ls hn hd hS => am_ri X hS hr hn hd hlocks) _ _ ls hS hl
set_option maxHeartbeats 4000000 in
set_option maxRecDepth 100000 in
theorem wX8_number {p : Program} {l : Launch} {e : Env} {R : Room} {s : State} {m : MethodId} {args : Array Value} {below : List Frame} {meth : Method} {c : Code} {Q : State → Prop} {E : Ev} (X : Cx p s m args c cX8_number RX8 E) (hml : c.maxLocals = 5) (hR : 1 ≤ R.frames ∧ 23 ≤ R.locals) {x0 : Nat} {x1 : Int32} {x2 : Int32} {mm : Mem} {r : Int32} {mm1 : Mem} (hf : fX8_number (eS E) x0 x1 x2 mm = some (r, mm1)) (hret : ∀ (pc : Nat) (H : Heap) (locs : List Loc) (ls : Array Slot), narrow .int (.int r) = .int r → decode cX8_number pc = .ok (.ireturn, 1) → wS E s mm1 H locs → W p l e R s m args below meth c H locs 0 0 Q (F0 m pc ls [.int r])) : ∀ (H : Heap) (locs : List Loc) (ls : Array Slot), wS E s mm H locs → lv_has ls 5 [(0, .ref x0), (1, .int x1), (2, .int x2)] → W p l e R s m args below meth c H locs 0 0 Q (F0 m 0 ls []) := by
  have hx := X.1
  have hb := X.2.1
  have hR1 := hR.1
  have hR2 := hR.2
  have hRa : 1 ≤ R.frames := by omega
  have hRb : 23 ≤ R.locals := by omega
  unfold fX8_number at hf
  have hj101 : ∀ (x0 : Nat) (x3 : Int32) (mm : Mem) (H : Heap) (locs : List Loc) (ls : Array Slot), fX8_number_j101 (eS E) x0 x3 mm = some (r, mm1) → wS E s mm H locs → lv_has ls 5 [(0, .ref x0), (3, .int x3)] → W p l e R s m args below meth c H locs 0 0 Q (F0 m 101 ls []) := by
    intro x0 x3 mm H locs ls hf hS hl
    unfold fX8_number_j101 at hf
    refine lv_aload_n hx hb dX8_number_101 rfl (lv_at hl 0 rfl) ?_
    refine lv_iconst (v := 2) hx hb dX8_number_102 (by decide) ?_
    refine lv_iload_n hx hb dX8_number_103 rfl (lv_at hl 1 rfl) ?_
    obtain ⟨u0, h0, hf⟩ := bs hf
    obtain ⟨_, hrc⟩ := isO_n h0
    obtain ⟨v1, m2, h1, hf⟩ := bs2 hf
    refine am_endi hS (am_runV (As := [.int 2, .int x3]) X (hml.trans hl.1.symm) hS (cX8_fail_ok (l := l) (E := E) h1) mv_X8_43 hrc rfl ⟨Nat.le_trans (by decide) hRa, Nat.le_trans (by decide) hRb⟩ ⟨Nat.zero_le _, Nat.zero_le _⟩ rfl rfl (Nat.le_of_ble_eq_true rfl) dX8_number_104) (fun H locs hS => ?_)
    refine lv_pop hx hb dX8_number_107 rfl ?_
    refine lv_iconst (v := (-1)) hx hb dX8_number_108 (by decide) ?_
    cases hf
    exact hret _ _ _ _ rfl dX8_number_109 hS
  have hj72 : ∀ (x0 : Nat) (x1 : Int32) (x2 : Int32) (x3 : Int32) (x4 : Int32) (mm : Mem) (H : Heap) (locs : List Loc) (ls : Array Slot), fX8_number_j72 (eS E) x0 x1 x2 x3 x4 mm = some (r, mm1) → wS E s mm H locs → lv_has ls 5 [(0, .ref x0), (1, .int x1), (2, .int x2), (3, .int x3), (4, .int x4)] → W p l e R s m args below meth c H locs 0 0 Q (F0 m 72 ls []) := by
    intro x0 x1 x2 x3 x4 mm H locs ls hf hS hl
    unfold fX8_number_j72 at hf
    refine lv_aload_n hx hb dX8_number_72 rfl (lv_at hl 0 rfl) ?_
    obtain ⟨v3, h1, hf⟩ := bs hf
    refine am_gi X hS fl_X8_25 rfl h1 dX8_number_73 ?_
    refine lv_iload_n hx hb dX8_number_76 rfl (lv_at hl 3 rfl) ?_
    refine lv_icmp_ne (tgt := 89) hx hb dX8_number_77 (by decide) (fun q4 => ?_) (fun q4 => ?_)
    · have hf := ifn hf q4
      refine lv_iload hx hb dX8_number_89 (lv_at hl 4 rfl) ?_
      refine lv_iload_n hx hb dX8_number_91 rfl (lv_at hl 1 rfl) ?_
      refine lv_icmp_lt (tgt := 101) hx hb dX8_number_92 (by decide) (fun q5 => ?_) (fun q5 => ?_)
      · have hf := ifp hf q5
        exact hj101 x0 x3 mm H locs ls hf hS (lv_sub hl [0, 3] rfl)
      · have hf := ifn hf q5
        refine lv_iload hx hb dX8_number_95 (lv_at hl 4 rfl) ?_
        refine lv_iload_n hx hb dX8_number_97 rfl (lv_at hl 2 rfl) ?_
        refine lv_icmp_le (tgt := 110) hx hb dX8_number_98 (by decide) (fun q6 => ?_) (fun q6 => ?_)
        · have hf := ifp hf q6
          refine lv_iload hx hb dX8_number_110 (lv_at hl 4 rfl) ?_
          cases hf
          exact hret _ _ _ _ rfl dX8_number_112 hS
        · have hf := ifn hf q6
          exact hj101 x0 x3 mm H locs ls hf hS (lv_sub hl [0, 3] rfl)
    · have hf := ifp hf q4
      refine lv_aload_n hx hb dX8_number_80 rfl (lv_at hl 0 rfl) ?_
      refine lv_iconst (v := 1) hx hb dX8_number_81 (by decide) ?_
      refine lv_iload_n hx hb dX8_number_82 rfl (lv_at hl 3 rfl) ?_
      obtain ⟨u0, h0, hf⟩ := bs hf
      obtain ⟨_, hrc⟩ := isO_n h0
      obtain ⟨v7, m8, h1, hf⟩ := bs2 hf
      refine am_endi hS (am_runV (As := [.int 1, .int x3]) X (hml.trans hl.1.symm) hS (cX8_fail_ok (l := l) (E := E) h1) mv_X8_43 hrc rfl ⟨Nat.le_trans (by decide) hRa, Nat.le_trans (by decide) hRb⟩ ⟨Nat.zero_le _, Nat.zero_le _⟩ rfl rfl (Nat.le_of_ble_eq_true rfl) dX8_number_83) (fun H locs hS => ?_)
      refine lv_pop hx hb dX8_number_86 rfl ?_
      refine lv_iconst (v := (-1)) hx hb dX8_number_87 (by decide) ?_
      cases hf
      exact hret _ _ _ _ rfl dX8_number_88 hS
  intro H locs ls hS hl
  refine lv_aload_n hx hb dX8_number_0 rfl (lv_at hl 0 rfl) ?_
  obtain ⟨u0, h0, hf⟩ := bs hf
  obtain ⟨_, hrc⟩ := isO_n h0
  obtain ⟨v9, m10, h1, hf⟩ := bs2 hf
  refine am_endi hS (am_runV (As := []) X (hml.trans hl.1.symm) hS (cX8_next_ok (l := l) (E := E) h1) mv_X8_31 hrc rfl ⟨Nat.le_trans (by decide) hRa, Nat.le_trans (by decide) hRb⟩ ⟨Nat.zero_le _, Nat.zero_le _⟩ rfl rfl (Nat.le_of_ble_eq_true rfl) dX8_number_1) (fun H locs hS => ?_)
  refine lv_topi (fun x3_11 e1 => ?_)
  have hf := lt1_n e1 hf
  refine lv_istore_n (lv' := [(3, .int x3_11), (0, .ref x0), (1, .int x1), (2, .int x2)]) hx hb dX8_number_4 rfl hl (by decide) rfl (fun ls hl => ?_)
  refine lv_iconst (v := 0) hx hb dX8_number_5 (by decide) ?_
  refine lv_topi (fun x4_12 e1 => ?_)
  have hf := lt1_n e1 hf
  refine lv_istore (lv' := [(4, .int x4_12), (3, .int x3_11), (0, .ref x0), (1, .int x1), (2, .int x2)]) hx hb dX8_number_6 hl (by decide) rfl (fun ls hl => ?_)
  obtain ⟨ex8, hl8, hk8⟩ := bs hf
  refine loop_W (P := fun st => ∀ (H : Heap) (locs : List Loc) (ls : Array Slot), wS E s st.2 H locs → lv_has ls 5 [(0, .ref x0), (1, .int x1), (2, .int x2), (3, .int x3_11), (4, .int st.1)] → W p l e R s m args below meth c H locs 0 0 Q (F0 m 8 ls [])) (ex := ex8) ?_ FU _ hl8 H locs ls hS (lv_sub hl [2, 3, 4, 1, 0] rfl)
  intro st y8 hf hyL8 hyR8 H locs ls hS hl
  obtain ⟨x4, mm⟩ := st
  obtain ⟨x3, rfl⟩ : ∃ z, z = x3_11 := ⟨_, rfl⟩
  have hf : fX8_number_b8 (eS E) x0 x1 x2 x3 x4 mm = some y8 := hf
  have hS : wS E s mm H locs := hS
  have hl : lv_has ls 5 [(0, .ref x0), (1, .int x1), (2, .int x2), (3, .int x3), (4, .int x4)] := hl
  unfold fX8_number_b8 at hf
  refine lv_aload_n hx hb dX8_number_8 rfl (lv_at hl 0 rfl) ?_
  obtain ⟨v13, h1, hf⟩ := bs hf
  refine am_gi X hS fl_X8_25 rfl h1 dX8_number_9 ?_
  refine lv_aload_n hx hb dX8_number_12 rfl (lv_at hl 0 rfl) ?_
  obtain ⟨v14, h1, hf⟩ := bs hf
  refine am_gi X hS fl_X8_22 rfl h1 dX8_number_13 ?_
  refine lv_icmp_ge (tgt := 72) hx hb dX8_number_16 (by decide) (fun q15 => ?_) (fun q15 => ?_)
  · have hf := ifp hf q15
    obtain rfl : (x4, mm) = ex8 := hyR8 _ (Option.some.inj hf).symm
    exact hj72 x0 x1 x2 x3 x4 mm H locs ls hk8 hS hl
  · have hf := ifn hf q15
    refine lv_aload_n hx hb dX8_number_19 rfl (lv_at hl 0 rfl) ?_
    obtain ⟨a16, h1, hf⟩ := bs hf
    refine am_gr X hS fl_X8_9 rfl h1 dX8_number_20 ?_
    refine lv_aload_n hx hb dX8_number_23 rfl (lv_at hl 0 rfl) ?_
    obtain ⟨v17, h1, hf⟩ := bs hf
    refine am_gi X hS fl_X8_25 rfl h1 dX8_number_24 ?_
    obtain ⟨v18, h1, hf⟩ := bs hf
    refine am_ald X hS h1 dX8_number_27 ?_
    obtain ⟨v19, h1, hf⟩ := bs hf
    refine am_endi hS (am_runS (As := [.int v18]) X (hml.trans hl.1.symm) hS (cX8_isDigit_ok (l := l) (E := E) h1) ms_X8_35 ⟨Nat.le_trans (by decide) hRa, Nat.le_trans (by decide) hRb⟩ ⟨Nat.zero_le _, Nat.zero_le _⟩ rfl rfl (Nat.le_of_ble_eq_true rfl) dX8_number_28) (fun H locs hS => ?_)
    refine lv_if_eq (tgt := 72) hx hb dX8_number_31 (by decide) (fun q20 => ?_) (fun q20 => ?_)
    · have hf := ifp hf q20
      obtain rfl : (x4, mm) = ex8 := hyR8 _ (Option.some.inj hf).symm
      exact hj72 x0 x1 x2 x3 x4 mm H locs ls hk8 hS hl
    · have hf := ifn hf q20
      refine lv_ldc (v := 100000) hx hb X.2.2.2.1 (X.2.2.1 _ (inBi 734 (by decide +kernel))) dX8_number_34 ?_
      refine lv_iload hx hb dX8_number_36 (lv_at hl 4 rfl) ?_
      refine lv_bipush (v := 10) hx hb dX8_number_38 (by decide) ?_
      refine lv_imul hx hb dX8_number_40 ?_
      refine lv_aload_n hx hb dX8_number_41 rfl (lv_at hl 0 rfl) ?_
      obtain ⟨a21, h1, hf⟩ := bs hf
      refine am_gr X hS fl_X8_9 rfl h1 dX8_number_42 ?_
      refine lv_aload_n hx hb dX8_number_45 rfl (lv_at hl 0 rfl) ?_
      obtain ⟨v22, h1, hf⟩ := bs hf
      refine am_gi X hS fl_X8_25 rfl h1 dX8_number_46 ?_
      obtain ⟨v23, h1, hf⟩ := bs hf
      refine am_ald X hS h1 dX8_number_49 ?_
      refine lv_iadd hx hb dX8_number_50 ?_
      refine lv_bipush (v := 48) hx hb dX8_number_51 (by decide) ?_
      refine lv_isub hx hb dX8_number_53 ?_
      refine va_mmin hx hb (hml.trans hl.1.symm) X.2.2.2.1 (X.2.2.1 _ (inBi 735 (by decide +kernel))) (X.2.2.1 _ (inBi 736 (by decide +kernel))) (X.2.2.1 _ (inBi 117 (by decide +kernel))) (X.2.2.1 _ (inBi 737 (by decide +kernel))) (Nat.le_trans (by decide) hRa) (Nat.le_trans (Nat.le_of_ble_eq_true rfl) hRb) (Nat.zero_le _) (Nat.zero_le _) dX8_number_54 ?_
      refine lv_topi (fun x4_24 e1 => ?_)
      have hf := lt1_n e1 hf
      refine lv_istore (lv' := [(4, .int x4_24), (0, .ref x0), (1, .int x1), (2, .int x2), (3, .int x3)]) hx hb dX8_number_57 hl (by decide) rfl (fun ls hl => ?_)
      refine lv_aload_n hx hb dX8_number_59 rfl (lv_at hl 1 rfl) ?_
      refine lv_dup hx hb dX8_number_60 rfl ?_
      obtain ⟨v25, h1, hf⟩ := bs hf
      refine am_gi X hS fl_X8_25 rfl h1 dX8_number_61 ?_
      refine lv_iconst (v := 1) hx hb dX8_number_64 (by decide) ?_
      refine lv_iadd hx hb dX8_number_65 ?_
      obtain ⟨m26, h1, hf⟩ := bs hf
      refine am_pi X hS fp_X8_25 rfl h1 dX8_number_66 (fun H locs hS => ?_)
      refine lv_goto (tgt := 8) hx hb dX8_number_69 (by decide) ?_
      exact hyL8 _ (Option.some.inj hf).symm H locs ls hS (lv_sub hl [1, 2, 3, 4, 0] rfl)
set_option maxRecDepth 100000 in
theorem cX8_number_ok {l : Launch} {E : Ev} {x0 : Nat} {x1 : Int32} {x2 : Int32} {mm : Mem} {r : Int32} {mm1 : Mem} (hf : fX8_number (eS E) x0 x1 x2 mm = some (r, mm1)) : CtI l yX8_number cX8_number 5 (some .int) (1) (23) E [.ref x0, .int x1, .int x2] mm r mm1 := by
  refine Met.ofW (cc := cX8_number) (maxL := 5) (ret := (some .int)) (by decide) rfl ?_
  intro p e s m args below meth c s₁ B hml hv
  obtain ⟨rfl, X, hS, hr, hlocks⟩ := am_in B hv
  refine am_entry (Nat.le_of_ble_eq_true rfl) (fun ls hl => ?_)
  exact wX8_number X hml ⟨Nat.le_refl _, Nat.le_refl _⟩ hf (fun pc H locs ls hn hd hS => am_ri X hS hr hn hd hlocks) _ _ ls hS hl
set_option maxHeartbeats 4000000 in
set_option maxRecDepth 100000 in
theorem wX8_takes {p : Program} {l : Launch} {e : Env} {R : Room} {s : State} {m : MethodId} {args : Array Value} {below : List Frame} {meth : Method} {c : Code} {Q : State → Prop} {E : Ev} (X : Cx p s m args c cX8_takes RX8 E) (hml : c.maxLocals = 2) (hR : 1 ≤ R.frames ∧ 20 ≤ R.locals) {x0 : Nat} {x1 : Int32} {mm : Mem} {r : Int32} {mm1 : Mem} (hf : fX8_takes (eS E) x0 x1 mm = some (r, mm1)) (hret : ∀ (pc : Nat) (H : Heap) (locs : List Loc) (ls : Array Slot), narrow .boolean (.int r) = .int r → decode cX8_takes pc = .ok (.ireturn, 1) → wS E s mm1 H locs → W p l e R s m args below meth c H locs 0 0 Q (F0 m pc ls [.int r])) : ∀ (H : Heap) (locs : List Loc) (ls : Array Slot), wS E s mm H locs → lv_has ls 2 [(0, .ref x0), (1, .int x1)] → W p l e R s m args below meth c H locs 0 0 Q (F0 m 0 ls []) := by
  have hx := X.1
  have hb := X.2.1
  have hR1 := hR.1
  have hR2 := hR.2
  have hRa : 1 ≤ R.frames := by omega
  have hRb : 20 ≤ R.locals := by omega
  unfold fX8_takes at hf
  have hj24 : ∀ (mm : Mem) (H : Heap) (locs : List Loc) (ls : Array Slot), fX8_takes_j24 (eS E) mm = some (r, mm1) → wS E s mm H locs → lv_has ls 2 [] → W p l e R s m args below meth c H locs 0 0 Q (F0 m 24 ls []) := by
    intro mm H locs ls hf hS hl
    unfold fX8_takes_j24 at hf
    refine lv_iconst (v := 0) hx hb dX8_takes_24 (by decide) ?_
    cases hf
    exact hret _ _ _ _ rfl dX8_takes_25 hS
  intro H locs ls hS hl
  refine lv_aload_n hx hb dX8_takes_0 rfl (lv_at hl 0 rfl) ?_
  obtain ⟨u0, h0, hf⟩ := bs hf
  obtain ⟨_, hrc⟩ := isO_n h0
  obtain ⟨v1, m2, h1, hf⟩ := bs2 hf
  refine am_endi hS (am_runV (As := []) X (hml.trans hl.1.symm) hS (cX8_next_ok (l := l) (E := E) h1) mv_X8_31 hrc rfl ⟨Nat.le_trans (by decide) hRa, Nat.le_trans (by decide) hRb⟩ ⟨Nat.zero_le _, Nat.zero_le _⟩ rfl rfl (Nat.le_of_ble_eq_true rfl) dX8_takes_1) (fun H locs hS => ?_)
  refine lv_aload_n hx hb dX8_takes_4 rfl (lv_at hl 0 rfl) ?_
  obtain ⟨v3, h1, hf⟩ := bs hf
  refine am_gi X hS fl_X8_22 rfl h1 dX8_takes_5 ?_
  refine lv_icmp_ge (tgt := 24) hx hb dX8_takes_8 (by decide) (fun q4 => ?_) (fun q4 => ?_)
  · have hf := ifp hf q4
    exact hj24 m2 H locs ls hf hS (lv_sub hl [] rfl)
  · have hf := ifn hf q4
    refine lv_aload_n hx hb dX8_takes_11 rfl (lv_at hl 0 rfl) ?_
    obtain ⟨a5, h1, hf⟩ := bs hf
    refine am_gr X hS fl_X8_9 rfl h1 dX8_takes_12 ?_
    refine lv_aload_n hx hb dX8_takes_15 rfl (lv_at hl 0 rfl) ?_
    obtain ⟨v6, h1, hf⟩ := bs hf
    refine am_gi X hS fl_X8_25 rfl h1 dX8_takes_16 ?_
    obtain ⟨v7, h1, hf⟩ := bs hf
    refine am_ald X hS h1 dX8_takes_19 ?_
    refine lv_iload_n hx hb dX8_takes_20 rfl (lv_at hl 1 rfl) ?_
    refine lv_icmp_eq (tgt := 26) hx hb dX8_takes_21 (by decide) (fun q8 => ?_) (fun q8 => ?_)
    · have hf := ifp hf q8
      refine lv_aload_n hx hb dX8_takes_26 rfl (lv_at hl 0 rfl) ?_
      refine lv_dup hx hb dX8_takes_27 rfl ?_
      obtain ⟨v9, h1, hf⟩ := bs hf
      refine am_gi X hS fl_X8_25 rfl h1 dX8_takes_28 ?_
      refine lv_iconst (v := 1) hx hb dX8_takes_31 (by decide) ?_
      refine lv_iadd hx hb dX8_takes_32 ?_
      obtain ⟨m10, h1, hf⟩ := bs hf
      refine am_pi X hS fp_X8_25 rfl h1 dX8_takes_33 (fun H locs hS => ?_)
      refine lv_iconst (v := 1) hx hb dX8_takes_36 (by decide) ?_
      cases hf
      exact hret _ _ _ _ rfl dX8_takes_37 hS
    · have hf := ifn hf q8
      exact hj24 m2 H locs ls hf hS (lv_sub hl [] rfl)
set_option maxRecDepth 100000 in
theorem cX8_takes_ok {l : Launch} {E : Ev} {x0 : Nat} {x1 : Int32} {mm : Mem} {r : Int32} {mm1 : Mem} (hf : fX8_takes (eS E) x0 x1 mm = some (r, mm1)) : CtI l yX8_takes cX8_takes 2 (some .boolean) (1) (20) E [.ref x0, .int x1] mm r mm1 := by
  refine Met.ofW (cc := cX8_takes) (maxL := 2) (ret := (some .boolean)) (by decide) rfl ?_
  intro p e s m args below meth c s₁ B hml hv
  obtain ⟨rfl, X, hS, hr, hlocks⟩ := am_in B hv
  refine am_entry (Nat.le_of_ble_eq_true rfl) (fun ls hl => ?_)
  exact wX8_takes X hml ⟨Nat.le_refl _, Nat.le_refl _⟩ hf (fun pc H locs ls hn hd hS => am_ri X hS hr hn hd hlocks) _ _ ls hS hl
set_option maxHeartbeats 4000000 in
set_option maxRecDepth 100000 in
theorem wX8_wants {p : Program} {l : Launch} {e : Env} {R : Room} {s : State} {m : MethodId} {args : Array Value} {below : List Frame} {meth : Method} {c : Code} {Q : State → Prop} {E : Ev} (X : Cx p s m args c cX8_wants RX8 E) (hml : c.maxLocals = 2) (hR : 2 ≤ R.frames ∧ 41 ≤ R.locals) {x0 : Nat} {x1 : Int32} {mm : Mem} {r : Int32} {mm1 : Mem} (hf : fX8_wants (eS E) x0 x1 mm = some (r, mm1)) (hret : ∀ (pc : Nat) (H : Heap) (locs : List Loc) (ls : Array Slot), narrow .boolean (.int r) = .int r → decode cX8_wants pc = .ok (.ireturn, 1) → wS E s mm1 H locs → W p l e R s m args below meth c H locs 0 0 Q (F0 m pc ls [.int r])) : ∀ (H : Heap) (locs : List Loc) (ls : Array Slot), wS E s mm H locs → lv_has ls 2 [(0, .ref x0), (1, .int x1)] → W p l e R s m args below meth c H locs 0 0 Q (F0 m 0 ls []) := by
  have hx := X.1
  have hb := X.2.1
  have hR1 := hR.1
  have hR2 := hR.2
  have hRa : 2 ≤ R.frames := by omega
  have hRb : 41 ≤ R.locals := by omega
  unfold fX8_wants at hf
  have hj25 : ∀ (s0 : Int32) (mm : Mem) (H : Heap) (locs : List Loc) (ls : Array Slot), fX8_wants_j25 (eS E) s0 mm = some (r, mm1) → wS E s mm H locs → lv_has ls 2 [] → W p l e R s m args below meth c H locs 0 0 Q (F0 m 25 ls [.int s0]) := by
    intro s0 mm H locs ls hf hS hl
    unfold fX8_wants_j25 at hf
    obtain ⟨v1, h1, hf⟩ := bs hf
    obtain ⟨rfl, h2⟩ := ckZ_n h1
    cases hf
    exact hret _ _ _ _ h2 dX8_wants_25 hS
  have hj20 : ∀ (mm : Mem) (H : Heap) (locs : List Loc) (ls : Array Slot), fX8_wants_j20 (eS E) mm = some (r, mm1) → wS E s mm H locs → lv_has ls 2 [] → W p l e R s m args below meth c H locs 0 0 Q (F0 m 20 ls []) := by
    intro mm H locs ls hf hS hl
    unfold fX8_wants_j20 at hf
    refine lv_iconst (v := 1) hx hb dX8_wants_20 (by decide) ?_
    refine lv_goto (tgt := 25) hx hb dX8_wants_21 (by decide) ?_
    exact hj25 1 mm H locs ls hf hS hl
  intro H locs ls hS hl
  refine lv_aload_n hx hb dX8_wants_0 rfl (lv_at hl 0 rfl) ?_
  refine lv_iload_n hx hb dX8_wants_1 rfl (lv_at hl 1 rfl) ?_
  obtain ⟨u0, h0, hf⟩ := bs hf
  obtain ⟨_, hrc⟩ := isO_n h0
  obtain ⟨v2, m3, h1, hf⟩ := bs2 hf
  refine am_endi hS (am_runV (As := [.int x1]) X (hml.trans hl.1.symm) hS (cX8_takes_ok (l := l) (E := E) h1) mv_X8_39 hrc rfl ⟨Nat.le_trans (by decide) hRa, Nat.le_trans (by decide) hRb⟩ ⟨Nat.zero_le _, Nat.zero_le _⟩ rfl rfl (Nat.le_of_ble_eq_true rfl) dX8_wants_2) (fun H locs hS => ?_)
  refine lv_if_ne (tgt := 20) hx hb dX8_wants_5 (by decide) (fun q4 => ?_) (fun q4 => ?_)
  · have hf := ifn hf q4
    exact hj20 m3 H locs ls hf hS (lv_sub hl [] rfl)
  · have hf := ifp hf q4
    refine lv_aload_n hx hb dX8_wants_8 rfl (lv_at hl 0 rfl) ?_
    refine lv_iconst (v := 1) hx hb dX8_wants_9 (by decide) ?_
    refine lv_aload_n hx hb dX8_wants_10 rfl (lv_at hl 0 rfl) ?_
    obtain ⟨v5, h1, hf⟩ := bs hf
    refine am_gi X hS fl_X8_25 rfl h1 dX8_wants_11 ?_
    obtain ⟨u0, h0, hf⟩ := bs hf
    obtain ⟨_, hrc⟩ := isO_n h0
    obtain ⟨v6, m7, h1, hf⟩ := bs2 hf
    refine am_endi hS (am_runV (As := [.int 1, .int v5]) X (hml.trans hl.1.symm) hS (cX8_fail_ok (l := l) (E := E) h1) mv_X8_43 hrc rfl ⟨Nat.le_trans (by decide) hRa, Nat.le_trans (by decide) hRb⟩ ⟨Nat.zero_le _, Nat.zero_le _⟩ rfl rfl (Nat.le_of_ble_eq_true rfl) dX8_wants_14) (fun H locs hS => ?_)
    refine lv_if_eq (tgt := 24) hx hb dX8_wants_17 (by decide) (fun q8 => ?_) (fun q8 => ?_)
    · have hf := ifp hf q8
      refine lv_iconst (v := 0) hx hb dX8_wants_24 (by decide) ?_
      exact hj25 0 m7 H locs ls hf hS (lv_sub hl [] rfl)
    · have hf := ifn hf q8
      exact hj20 m7 H locs ls hf hS (lv_sub hl [] rfl)
set_option maxRecDepth 100000 in
theorem cX8_wants_ok {l : Launch} {E : Ev} {x0 : Nat} {x1 : Int32} {mm : Mem} {r : Int32} {mm1 : Mem} (hf : fX8_wants (eS E) x0 x1 mm = some (r, mm1)) : CtI l yX8_wants cX8_wants 2 (some .boolean) (2) (41) E [.ref x0, .int x1] mm r mm1 := by
  refine Met.ofW (cc := cX8_wants) (maxL := 2) (ret := (some .boolean)) (by decide) rfl ?_
  intro p e s m args below meth c s₁ B hml hv
  obtain ⟨rfl, X, hS, hr, hlocks⟩ := am_in B hv
  refine am_entry (Nat.le_of_ble_eq_true rfl) (fun ls hl => ?_)
  exact wX8_wants X hml ⟨Nat.le_refl _, Nat.le_refl _⟩ hf (fun pc H locs ls hn hd hS => am_ri X hS hr hn hd hlocks) _ _ ls hS hl
set_option maxHeartbeats 4000000 in
set_option maxRecDepth 100000 in
theorem wX0_readLine {p : Program} {l : Launch} {e : Env} {R : Room} {s : State} {m : MethodId} {args : Array Value} {below : List Frame} {meth : Method} {c : Code} {Q : State → Prop} {E : Ev} (X : Cx p s m args c cX0_readLine RX0 E) (hml : c.maxLocals = 5) (hR : 3 ≤ R.frames ∧ 62 ≤ R.locals) {x0 : Nat} {x1 : Nat} {x2 : Int32} {mm : Mem} {mm1 : Mem} (hf : fX0_readLine (eS E) x0 x1 x2 mm = some mm1) (hret : ∀ (pc : Nat) (H : Heap) (locs : List Loc) (ls : Array Slot), decode cX0_readLine pc = .ok (.return_, 1) → wS E s mm1 H locs → W p l e R s m args below meth c H locs 0 0 Q (F0 m pc ls [])) : ∀ (H : Heap) (locs : List Loc) (ls : Array Slot), wS E s mm H locs → lv_has ls 5 [(0, .ref x0), (1, .ref x1), (2, .int x2)] → W p l e R s m args below meth c H locs 0 0 Q (F0 m 0 ls []) := by
  have hx := X.1
  have hb := X.2.1
  have hR1 := hR.1
  have hR2 := hR.2
  have hRa : 3 ≤ R.frames := by omega
  have hRb : 62 ≤ R.locals := by omega
  unfold fX0_readLine at hf
  intro H locs ls hS hl
  refine lv_aload_n hx hb dX0_readLine_0 rfl (lv_at hl 1 rfl) ?_
  obtain ⟨u0, h0, hf⟩ := bs hf
  obtain ⟨_, hrc⟩ := isO_n h0
  obtain ⟨v1, m2, h1, hf⟩ := bs2 hf
  refine am_endi hS (am_runV (As := []) X (hml.trans hl.1.symm) hS (cX8_next_ok (l := l) (E := E) h1) mv_X0_41 hrc rfl ⟨Nat.le_trans (by decide) hRa, Nat.le_trans (by decide) hRb⟩ ⟨Nat.zero_le _, Nat.zero_le _⟩ rfl rfl (Nat.le_of_ble_eq_true rfl) dX0_readLine_1) (fun H locs hS => ?_)
  refine lv_topi (fun x3_3 e1 => ?_)
  have hf := lt1_n e1 hf
  refine lv_istore_n (lv' := [(3, .int x3_3), (0, .ref x0), (1, .ref x1), (2, .int x2)]) hx hb dX0_readLine_4 rfl hl (by decide) rfl (fun ls hl => ?_)
  refine lv_aload_n hx hb dX0_readLine_5 rfl (lv_at hl 2 rfl) ?_
  refine lv_iconst (v := 0) hx hb dX0_readLine_6 (by decide) ?_
  refine lv_iload_n hx hb dX0_readLine_7 rfl (lv_at hl 3 rfl) ?_
  refine lv_iconst (v := 1) hx hb dX0_readLine_8 (by decide) ?_
  refine lv_isub hx hb dX0_readLine_9 ?_
  obtain ⟨u0, h0, hf⟩ := bs hf
  obtain ⟨_, hrc⟩ := isO_n h0
  obtain ⟨v4, m5, h1, hf⟩ := bs2 hf
  refine am_endi hS (am_runV (As := [.int 0, .int (x2 - 1)]) X (hml.trans hl.1.symm) hS (cX8_number_ok (l := l) (E := E) h1) mv_X0_45 hrc rfl ⟨Nat.le_trans (by decide) hRa, Nat.le_trans (by decide) hRb⟩ ⟨Nat.zero_le _, Nat.zero_le _⟩ rfl rfl (Nat.le_of_ble_eq_true rfl) dX0_readLine_10) (fun H locs hS => ?_)
  refine lv_topi (fun x4_6 e1 => ?_)
  have hf := lt1_n e1 hf
  refine lv_istore (lv' := [(4, .int x4_6), (3, .int x3_3), (0, .ref x0), (1, .ref x1), (2, .int x2)]) hx hb dX0_readLine_13 hl (by decide) rfl (fun ls hl => ?_)
  refine lv_aload_n hx hb dX0_readLine_15 rfl (lv_at hl 2 rfl) ?_
  obtain ⟨v7, h1, hf⟩ := bs hf
  refine am_gi X hS fl_X0_24 rfl h1 dX0_readLine_16 ?_
  refine lv_bipush (v := 8) hx hb dX0_readLine_19 (by decide) ?_
  refine lv_icmp_lt (tgt := 32) hx hb dX0_readLine_21 (by decide) (fun q8 => ?_) (fun q8 => ?_)
  · have hf := ifp hf q8
    refine lv_aload_n hx hb dX0_readLine_32 rfl (lv_at hl 2 rfl) ?_
    obtain ⟨a9, h1, hf⟩ := bs hf
    refine am_gr X hS fl_X0_9 rfl h1 dX0_readLine_33 ?_
    refine lv_aload_n hx hb dX0_readLine_36 rfl (lv_at hl 2 rfl) ?_
    obtain ⟨v10, h1, hf⟩ := bs hf
    refine am_gi X hS fl_X0_24 rfl h1 dX0_readLine_37 ?_
    refine lv_iload hx hb dX0_readLine_40 (lv_at hl 0 rfl) ?_
    obtain ⟨m11, h1, hf⟩ := bs hf
    refine am_ast X hS h1 dX0_readLine_42 (fun H locs hS => ?_)
    refine lv_aload_n hx hb dX0_readLine_43 rfl (lv_at hl 2 rfl) ?_
    obtain ⟨a12, h1, hf⟩ := bs hf
    refine am_gr X hS fl_X0_15 rfl h1 dX0_readLine_44 ?_
    refine lv_aload_n hx hb dX0_readLine_47 rfl (lv_at hl 2 rfl) ?_
    obtain ⟨v13, h1, hf⟩ := bs hf
    refine am_gi X hS fl_X0_24 rfl h1 dX0_readLine_48 ?_
    refine lv_aload_n hx hb dX0_readLine_51 rfl (lv_at hl 3 rfl) ?_
    refine lv_iconst (v := 0) hx hb dX0_readLine_52 (by decide) ?_
    refine lv_sipush (v := 400) hx hb dX0_readLine_53 (by decide) ?_
    obtain ⟨u0, h0, hf⟩ := bs hf
    obtain ⟨_, hrc⟩ := isO_n h0
    obtain ⟨v14, m15, h1, hf⟩ := bs2 hf
    refine am_endi hS (am_runV (As := [.int 0, .int 400]) X (hml.trans hl.1.symm) hS (cX8_number_ok (l := l) (E := E) h1) mv_X0_45 hrc rfl ⟨Nat.le_trans (by decide) hRa, Nat.le_trans (by decide) hRb⟩ ⟨Nat.zero_le _, Nat.zero_le _⟩ rfl rfl (Nat.le_of_ble_eq_true rfl) dX0_readLine_56) (fun H locs hS => ?_)
    obtain ⟨m16, h1, hf⟩ := bs hf
    refine am_ast X hS h1 dX0_readLine_59 (fun H locs hS => ?_)
    refine lv_aload_n hx hb dX0_readLine_60 rfl (lv_at hl 2 rfl) ?_
    refine lv_dup hx hb dX0_readLine_61 rfl ?_
    obtain ⟨v17, h1, hf⟩ := bs hf
    refine am_gi X hS fl_X0_24 rfl h1 dX0_readLine_62 ?_
    refine lv_iconst (v := 1) hx hb dX0_readLine_65 (by decide) ?_
    refine lv_iadd hx hb dX0_readLine_66 ?_
    obtain ⟨m18, h1, hf⟩ := bs hf
    refine am_pi X hS fp_X0_24 rfl h1 dX0_readLine_67 (fun H locs hS => ?_)
    refine lv_aload_n hx hb dX0_readLine_70 rfl (lv_at hl 3 rfl) ?_
    refine lv_bipush (v := 59) hx hb dX0_readLine_71 (by decide) ?_
    obtain ⟨u0, h0, hf⟩ := bs hf
    obtain ⟨_, hrc⟩ := isO_n h0
    obtain ⟨v19, m20, h1, hf⟩ := bs2 hf
    refine am_endi hS (am_runV (As := [.int 59]) X (hml.trans hl.1.symm) hS (cX8_wants_ok (l := l) (E := E) h1) mv_X0_53 hrc rfl ⟨Nat.le_trans (by decide) hRa, Nat.le_trans (by decide) hRb⟩ ⟨Nat.zero_le _, Nat.zero_le _⟩ rfl rfl (Nat.le_of_ble_eq_true rfl) dX0_readLine_73) (fun H locs hS => ?_)
    refine lv_pop hx hb dX0_readLine_76 rfl ?_
    cases hf
    exact hret _ _ _ _ dX0_readLine_77 hS
  · have hf := ifn hf q8
    refine lv_aload_n hx hb dX0_readLine_24 rfl (lv_at hl 3 rfl) ?_
    refine lv_iconst (v := 3) hx hb dX0_readLine_25 (by decide) ?_
    refine lv_iload_n hx hb dX0_readLine_26 rfl (lv_at hl 1 rfl) ?_
    obtain ⟨u0, h0, hf⟩ := bs hf
    obtain ⟨_, hrc⟩ := isO_n h0
    obtain ⟨v21, m22, h1, hf⟩ := bs2 hf
    refine am_endi hS (am_runV (As := [.int 3, .int x3_3]) X (hml.trans hl.1.symm) hS (cX8_fail_ok (l := l) (E := E) h1) mv_X0_49 hrc rfl ⟨Nat.le_trans (by decide) hRa, Nat.le_trans (by decide) hRb⟩ ⟨Nat.zero_le _, Nat.zero_le _⟩ rfl rfl (Nat.le_of_ble_eq_true rfl) dX0_readLine_27) (fun H locs hS => ?_)
    refine lv_pop hx hb dX0_readLine_30 rfl ?_
    cases hf
    exact hret _ _ _ _ dX0_readLine_31 hS
set_option maxRecDepth 100000 in
theorem cX0_readLine_ok {l : Launch} {E : Ev} {x0 : Nat} {x1 : Nat} {x2 : Int32} {mm : Mem} {mm1 : Mem} (hf : fX0_readLine (eS E) x0 x1 x2 mm = some mm1) : CtV l yX0_readLine cX0_readLine 5 none (3) (62) E [.ref x0, .ref x1, .int x2] mm mm1 := by
  refine Met.ofW (cc := cX0_readLine) (maxL := 5) (ret := none) (by decide) rfl ?_
  intro p e s m args below meth c s₁ B hml hv
  obtain ⟨rfl, X, hS, hr, hlocks⟩ := am_in B hv
  refine am_entry (Nat.le_of_ble_eq_true rfl) (fun ls hl => ?_)
  exact wX0_readLine X hml ⟨Nat.le_refl _, Nat.le_refl _⟩ hf (fun pc H locs ls hd hS => am_rv X hS hr hd hlocks) _ _ ls hS hl
set_option maxHeartbeats 4000000 in
set_option maxRecDepth 100000 in
theorem wX8_isWhole {p : Program} {l : Launch} {e : Env} {R : Room} {s : State} {m : MethodId} {args : Array Value} {below : List Frame} {meth : Method} {c : Code} {Q : State → Prop} {E : Ev} (X : Cx p s m args c cX8_isWhole RX8 E) (hml : c.maxLocals = 1) (hR : 0 ≤ R.frames ∧ 0 ≤ R.locals) {x0 : Nat} {mm : Mem} {r : Int32} (hf : fX8_isWhole (eS E) x0 mm = some r) (hret : ∀ (pc : Nat) (H : Heap) (locs : List Loc) (ls : Array Slot), narrow .boolean (.int r) = .int r → decode cX8_isWhole pc = .ok (.ireturn, 1) → wS E s mm H locs → W p l e R s m args below meth c H locs 0 0 Q (F0 m pc ls [.int r])) : ∀ (H : Heap) (locs : List Loc) (ls : Array Slot), wS E s mm H locs → lv_has ls 1 [(0, .ref x0)] → W p l e R s m args below meth c H locs 0 0 Q (F0 m 0 ls []) := by
  have hx := X.1
  have hb := X.2.1
  have hR1 := hR.1
  have hR2 := hR.2
  have hRa : 0 ≤ R.frames := by omega
  have hRb : 0 ≤ R.locals := by omega
  unfold fX8_isWhole at hf
  have hj12 : ∀ (s0 : Int32) (H : Heap) (locs : List Loc) (ls : Array Slot), fX8_isWhole_j12 (eS E) s0 mm = some r → wS E s mm H locs → lv_has ls 1 [] → W p l e R s m args below meth c H locs 0 0 Q (F0 m 12 ls [.int s0]) := by
    intro s0 H locs ls hf hS hl
    unfold fX8_isWhole_j12 at hf
    obtain ⟨v1, h1, hf⟩ := bs hf
    obtain ⟨rfl, h2⟩ := ckZ_n h1
    cases hf
    exact hret _ _ _ _ h2 dX8_isWhole_12 hS
  intro H locs ls hS hl
  refine lv_aload_n hx hb dX8_isWhole_0 rfl (lv_at hl 0 rfl) ?_
  obtain ⟨v2, h1, hf⟩ := bs hf
  refine am_gi X hS fl_X8_28 rfl h1 dX8_isWhole_1 ?_
  refine lv_if_ne (tgt := 11) hx hb dX8_isWhole_4 (by decide) (fun q3 => ?_) (fun q3 => ?_)
  · have hf := ifn hf q3
    refine lv_iconst (v := 0) hx hb dX8_isWhole_11 (by decide) ?_
    exact hj12 0 H locs ls hf hS (lv_sub hl [] rfl)
  · have hf := ifp hf q3
    refine lv_iconst (v := 1) hx hb dX8_isWhole_7 (by decide) ?_
    refine lv_goto (tgt := 12) hx hb dX8_isWhole_8 (by decide) ?_
    exact hj12 1 H locs ls hf hS (lv_sub hl [] rfl)
set_option maxRecDepth 100000 in
theorem cX8_isWhole_ok {l : Launch} {E : Ev} {x0 : Nat} {mm : Mem} {r : Int32} (hf : fX8_isWhole (eS E) x0 mm = some r) : CtI l yX8_isWhole cX8_isWhole 1 (some .boolean) (0) (0) E [.ref x0] mm r mm := by
  refine Met.ofW (cc := cX8_isWhole) (maxL := 1) (ret := (some .boolean)) (by decide) rfl ?_
  intro p e s m args below meth c s₁ B hml hv
  obtain ⟨rfl, X, hS, hr, hlocks⟩ := am_in B hv
  refine am_entry (Nat.le_of_ble_eq_true rfl) (fun ls hl => ?_)
  exact wX8_isWhole X hml ⟨Nat.le_refl _, Nat.le_refl _⟩ hf (fun pc H locs ls hn hd hS => am_ri X hS hr hn hd hlocks) _ _ ls hS hl
set_option maxHeartbeats 4000000 in
set_option maxRecDepth 100000 in
theorem wX0_read {p : Program} {l : Launch} {e : Env} {R : Room} {s : State} {m : MethodId} {args : Array Value} {below : List Frame} {meth : Method} {c : Code} {Q : State → Prop} {E : Ev} (X : Cx p s m args c cX0_read RX0 E) (hml : c.maxLocals = 4) (hR : 4 ≤ R.frames ∧ 86 ≤ R.locals) {x0 : Nat} {x1 : Nat} {x2 : Int32} {mm : Mem} {r : Int32} {mm1 : Mem} (hf : fX0_read (eS E) x0 x1 x2 mm = some (r, mm1)) (hret : ∀ (pc : Nat) (H : Heap) (locs : List Loc) (ls : Array Slot), narrow .boolean (.int r) = .int r → decode cX0_read pc = .ok (.ireturn, 1) → wS E s mm1 H locs → W p l e R s m args below meth c H locs 0 0 Q (F0 m pc ls [.int r])) : ∀ (H : Heap) (locs : List Loc) (ls : Array Slot), wS E s mm H locs → lv_has ls 4 [(0, .ref x0), (1, .ref x1), (2, .int x2)] → W p l e R s m args below meth c H locs 0 0 Q (F0 m 0 ls []) := by
  have hx := X.1
  have hb := X.2.1
  have hR1 := hR.1
  have hR2 := hR.2
  have hRa : 4 ≤ R.frames := by omega
  have hRb : 86 ≤ R.locals := by omega
  unfold fX0_read at hf
  have hj41 : ∀ (mm : Mem) (H : Heap) (locs : List Loc) (ls : Array Slot), fX0_read_j41 (eS E) mm = some (r, mm1) → wS E s mm H locs → lv_has ls 4 [] → W p l e R s m args below meth c H locs 0 0 Q (F0 m 41 ls []) := by
    intro mm H locs ls hf hS hl
    unfold fX0_read_j41 at hf
    refine lv_iconst (v := 1) hx hb dX0_read_41 (by decide) ?_
    cases hf
    exact hret _ _ _ _ rfl dX0_read_42 hS
  have hj33 : ∀ (mm : Mem) (H : Heap) (locs : List Loc) (ls : Array Slot), fX0_read_j33 (eS E) mm = some (r, mm1) → wS E s mm H locs → lv_has ls 4 [] → W p l e R s m args below meth c H locs 0 0 Q (F0 m 33 ls []) := by
    intro mm H locs ls hf hS hl
    unfold fX0_read_j33 at hf
    refine lv_iconst (v := 0) hx hb dX0_read_33 (by decide) ?_
    cases hf
    exact hret _ _ _ _ rfl dX0_read_34 hS
  intro H locs ls hS hl
  refine lv_aload_n hx hb dX0_read_0 rfl (lv_at hl 0 rfl) ?_
  refine lv_iconst (v := 0) hx hb dX0_read_1 (by decide) ?_
  obtain ⟨m1, h1, hf⟩ := bs hf
  refine am_pi X hS fp_X0_24 rfl h1 dX0_read_2 (fun H locs hS => ?_)
  refine lv_iconst (v := 0) hx hb dX0_read_5 (by decide) ?_
  refine lv_topi (fun x3_2 e1 => ?_)
  have hf := lt1_n e1 hf
  refine lv_istore_n (lv' := [(3, .int x3_2), (0, .ref x0), (1, .ref x1), (2, .int x2)]) hx hb dX0_read_6 rfl hl (by decide) rfl (fun ls hl => ?_)
  obtain ⟨ex7, hl7, hk7⟩ := bs hf
  refine loop_W (P := fun st => ∀ (H : Heap) (locs : List Loc) (ls : Array Slot), wS E s st.2 H locs → lv_has ls 4 [(0, .ref x0), (1, .ref x1), (2, .int x2), (3, .int st.1)] → W p l e R s m args below meth c H locs 0 0 Q (F0 m 7 ls [])) (ex := ex7) ?_ FU _ hl7 H locs ls hS (lv_sub hl [1, 2, 3, 0] rfl)
  intro st y7 hf hyL7 hyR7 H locs ls hS hl
  obtain ⟨x3, mm⟩ := st
  have hf : fX0_read_b7 (eS E) x0 x1 x2 x3 mm = some y7 := hf
  have hS : wS E s mm H locs := hS
  have hl : lv_has ls 4 [(0, .ref x0), (1, .ref x1), (2, .int x2), (3, .int x3)] := hl
  unfold fX0_read_b7 at hf
  refine lv_iload_n hx hb dX0_read_7 rfl (lv_at hl 3 rfl) ?_
  refine lv_bipush (v := 8) hx hb dX0_read_8 (by decide) ?_
  refine lv_icmp_gt (tgt := 41) hx hb dX0_read_10 (by decide) (fun q3 => ?_) (fun q3 => ?_)
  · have hf := ifp hf q3
    obtain rfl : Sum.inr (mm) = ex7 := hyR7 _ (Option.some.inj hf).symm
    exact hj41 mm H locs ls hk7 hS (lv_sub hl [] rfl)
  · have hf := ifn hf q3
    refine lv_aload_n hx hb dX0_read_13 rfl (lv_at hl 1 rfl) ?_
    obtain ⟨u0, h0, hf⟩ := bs hf
    obtain ⟨_, hrc⟩ := isO_n h0
    obtain ⟨v4, m5, h1, hf⟩ := bs2 hf
    refine am_endi hS (am_runV (As := []) X (hml.trans hl.1.symm) hS (cX8_ended_ok (l := l) (E := E) h1) mv_X0_28 hrc rfl ⟨Nat.le_trans (by decide) hRa, Nat.le_trans (by decide) hRb⟩ ⟨Nat.zero_le _, Nat.zero_le _⟩ rfl rfl (Nat.le_of_ble_eq_true rfl) dX0_read_14) (fun H locs hS => ?_)
    refine lv_if_ne (tgt := 41) hx hb dX0_read_17 (by decide) (fun q6 => ?_) (fun q6 => ?_)
    · have hf := ifn hf q6
      obtain rfl : Sum.inr (m5) = ex7 := hyR7 _ (Option.some.inj hf).symm
      exact hj41 m5 H locs ls hk7 hS (lv_sub hl [] rfl)
    · have hf := ifp hf q6
      refine lv_aload_n hx hb dX0_read_20 rfl (lv_at hl 0 rfl) ?_
      refine lv_aload_n hx hb dX0_read_21 rfl (lv_at hl 1 rfl) ?_
      refine lv_iload_n hx hb dX0_read_22 rfl (lv_at hl 2 rfl) ?_
      obtain ⟨u0, h0, hf⟩ := bs hf
      obtain ⟨_, hrc⟩ := isO_n h0
      obtain ⟨m7, h1, hf⟩ := bs hf
      refine am_endv hS (am_runV (As := [.ref x1, .int x2]) X (hml.trans hl.1.symm) hS (cX0_readLine_ok (l := l) (E := E) h1) mv_X0_34 hrc rfl ⟨Nat.le_trans (by decide) hRa, Nat.le_trans (by decide) hRb⟩ ⟨Nat.zero_le _, Nat.zero_le _⟩ rfl rfl (Nat.le_of_ble_eq_true rfl) dX0_read_23) (fun H locs hS => ?_)
      refine lv_aload_n hx hb dX0_read_26 rfl (lv_at hl 1 rfl) ?_
      obtain ⟨u0, h0, hf⟩ := bs hf
      obtain ⟨_, hrc⟩ := isO_n h0
      obtain ⟨v8, h1, hf⟩ := bs hf
      refine am_endi hS (am_runV (As := []) X (hml.trans hl.1.symm) hS (cX8_isWhole_ok (l := l) (E := E) h1) mv_X0_38 hrc rfl ⟨Nat.le_trans (by decide) hRa, Nat.le_trans (by decide) hRb⟩ ⟨Nat.zero_le _, Nat.zero_le _⟩ rfl rfl (Nat.le_of_ble_eq_true rfl) dX0_read_27) (fun H locs hS => ?_)
      refine lv_if_ne (tgt := 35) hx hb dX0_read_30 (by decide) (fun q9 => ?_) (fun q9 => ?_)
      · have hf := ifn hf q9
        obtain ⟨x3_10, e1⟩ : ∃ z : Int32, z = x3 + 1 := ⟨_, rfl⟩
        have hf := lt1_n e1 hf
        refine lv_iinc (v := x3_10) (lv' := [(3, .int x3_10), (0, .ref x0), (1, .ref x1), (2, .int x2)]) hx hb dX0_read_35 hl (k := 3) rfl (by rw [e1]; rfl) (by decide) rfl (fun ls hl => ?_)
        refine lv_goto (tgt := 7) hx hb dX0_read_38 (by decide) ?_
        exact hyL7 _ (Option.some.inj hf).symm H locs ls hS (lv_sub hl [1, 2, 3, 0] rfl)
      · have hf := ifp hf q9
        obtain rfl : Sum.inl m7 = ex7 := hyR7 _ (Option.some.inj hf).symm
        exact hj33 m7 H locs ls hk7 hS (lv_sub hl [] rfl)
set_option maxRecDepth 100000 in
theorem cX0_read_ok {l : Launch} {E : Ev} {x0 : Nat} {x1 : Nat} {x2 : Int32} {mm : Mem} {r : Int32} {mm1 : Mem} (hf : fX0_read (eS E) x0 x1 x2 mm = some (r, mm1)) : CtI l yX0_read cX0_read 4 (some .boolean) (4) (86) E [.ref x0, .ref x1, .int x2] mm r mm1 := by
  refine Met.ofW (cc := cX0_read) (maxL := 4) (ret := (some .boolean)) (by decide) rfl ?_
  intro p e s m args below meth c s₁ B hml hv
  obtain ⟨rfl, X, hS, hr, hlocks⟩ := am_in B hv
  refine am_entry (Nat.le_of_ble_eq_true rfl) (fun ls hl => ?_)
  exact wX0_read X hml ⟨Nat.le_refl _, Nat.le_refl _⟩ hf (fun pc H locs ls hn hd hS => am_ri X hS hr hn hd hlocks) _ _ ls hS hl
set_option maxHeartbeats 4000000 in
set_option maxRecDepth 100000 in
theorem wX0_tells {p : Program} {l : Launch} {e : Env} {R : Room} {s : State} {m : MethodId} {args : Array Value} {below : List Frame} {meth : Method} {c : Code} {Q : State → Prop} {E : Ev} (X : Cx p s m args c cX0_tells RX0 E) (hml : c.maxLocals = 3) (hR : 0 ≤ R.frames ∧ 0 ≤ R.locals) {x0 : Nat} {x1 : Int32} {mm : Mem} {r : Int32} (hf : fX0_tells (eS E) x0 x1 mm = some r) (hret : ∀ (pc : Nat) (H : Heap) (locs : List Loc) (ls : Array Slot), narrow .boolean (.int r) = .int r → decode cX0_tells pc = .ok (.ireturn, 1) → wS E s mm H locs → W p l e R s m args below meth c H locs 0 0 Q (F0 m pc ls [.int r])) : ∀ (H : Heap) (locs : List Loc) (ls : Array Slot), wS E s mm H locs → lv_has ls 3 [(0, .ref x0), (1, .int x1)] → W p l e R s m args below meth c H locs 0 0 Q (F0 m 0 ls []) := by
  have hx := X.1
  have hb := X.2.1
  have hR1 := hR.1
  have hR2 := hR.2
  have hRa : 0 ≤ R.frames := by omega
  have hRb : 0 ≤ R.locals := by omega
  unfold fX0_tells at hf
  have hj28 : ∀ (H : Heap) (locs : List Loc) (ls : Array Slot), fX0_tells_j28 (eS E) mm = some r → wS E s mm H locs → lv_has ls 3 [] → W p l e R s m args below meth c H locs 0 0 Q (F0 m 28 ls []) := by
    intro H locs ls hf hS hl
    unfold fX0_tells_j28 at hf
    refine lv_iconst (v := 0) hx hb dX0_tells_28 (by decide) ?_
    cases hf
    exact hret _ _ _ _ rfl dX0_tells_29 hS
  have hj20 : ∀ (H : Heap) (locs : List Loc) (ls : Array Slot), fX0_tells_j20 (eS E) mm = some r → wS E s mm H locs → lv_has ls 3 [] → W p l e R s m args below meth c H locs 0 0 Q (F0 m 20 ls []) := by
    intro H locs ls hf hS hl
    unfold fX0_tells_j20 at hf
    refine lv_iconst (v := 1) hx hb dX0_tells_20 (by decide) ?_
    cases hf
    exact hret _ _ _ _ rfl dX0_tells_21 hS
  intro H locs ls hS hl
  refine lv_iconst (v := 0) hx hb dX0_tells_0 (by decide) ?_
  refine lv_topi (fun x2_1 e1 => ?_)
  have hf := lt1_n e1 hf
  refine lv_istore_n (lv' := [(2, .int x2_1), (0, .ref x0), (1, .int x1)]) hx hb dX0_tells_1 rfl hl (by decide) rfl (fun ls hl => ?_)
  obtain ⟨ex2, hl2, hk2⟩ := bs hf
  refine loop_W (P := fun st => ∀ (H : Heap) (locs : List Loc) (ls : Array Slot), wS E s mm H locs → lv_has ls 3 [(0, .ref x0), (1, .int x1), (2, .int st)] → W p l e R s m args below meth c H locs 0 0 Q (F0 m 2 ls [])) (ex := ex2) ?_ FU _ hl2 H locs ls hS (lv_sub hl [1, 2, 0] rfl)
  intro st y2 hf hyL2 hyR2 H locs ls hS hl
  obtain ⟨x2, rfl⟩ : ∃ z, z = st := ⟨_, rfl⟩
  have hf : fX0_tells_b2 (eS E) x0 x1 x2 mm = some y2 := hf
  have hS : wS E s mm H locs := hS
  have hl : lv_has ls 3 [(0, .ref x0), (1, .int x1), (2, .int x2)] := hl
  unfold fX0_tells_b2 at hf
  refine lv_iload_n hx hb dX0_tells_2 rfl (lv_at hl 2 rfl) ?_
  refine lv_aload_n hx hb dX0_tells_3 rfl (lv_at hl 0 rfl) ?_
  obtain ⟨v2, h1, hf⟩ := bs hf
  refine am_gi X hS fl_X0_24 rfl h1 dX0_tells_4 ?_
  refine lv_icmp_ge (tgt := 28) hx hb dX0_tells_7 (by decide) (fun q3 => ?_) (fun q3 => ?_)
  · have hf := ifp hf q3
    obtain rfl : Sum.inr (()) = ex2 := hyR2 _ (Option.some.inj hf).symm
    exact hj28  H locs ls hk2 hS (lv_sub hl [] rfl)
  · have hf := ifn hf q3
    refine lv_aload_n hx hb dX0_tells_10 rfl (lv_at hl 0 rfl) ?_
    obtain ⟨a4, h1, hf⟩ := bs hf
    refine am_gr X hS fl_X0_9 rfl h1 dX0_tells_11 ?_
    refine lv_iload_n hx hb dX0_tells_14 rfl (lv_at hl 2 rfl) ?_
    obtain ⟨v5, h1, hf⟩ := bs hf
    refine am_ald X hS h1 dX0_tells_15 ?_
    refine lv_iload_n hx hb dX0_tells_16 rfl (lv_at hl 1 rfl) ?_
    refine lv_icmp_ne (tgt := 22) hx hb dX0_tells_17 (by decide) (fun q6 => ?_) (fun q6 => ?_)
    · have hf := ifn hf q6
      obtain ⟨x2_7, e1⟩ : ∃ z : Int32, z = x2 + 1 := ⟨_, rfl⟩
      have hf := lt1_n e1 hf
      refine lv_iinc (v := x2_7) (lv' := [(2, .int x2_7), (0, .ref x0), (1, .int x1)]) hx hb dX0_tells_22 hl (k := 2) rfl (by rw [e1]; rfl) (by decide) rfl (fun ls hl => ?_)
      refine lv_goto (tgt := 2) hx hb dX0_tells_25 (by decide) ?_
      exact hyL2 _ (Option.some.inj hf).symm H locs ls hS (lv_sub hl [1, 2, 0] rfl)
    · have hf := ifp hf q6
      obtain rfl : Sum.inl () = ex2 := hyR2 _ (Option.some.inj hf).symm
      exact hj20  H locs ls hk2 hS (lv_sub hl [] rfl)
set_option maxRecDepth 100000 in
theorem cX0_tells_ok {l : Launch} {E : Ev} {x0 : Nat} {x1 : Int32} {mm : Mem} {r : Int32} (hf : fX0_tells (eS E) x0 x1 mm = some r) : CtI l yX0_tells cX0_tells 3 (some .boolean) (0) (0) E [.ref x0, .int x1] mm r mm := by
  refine Met.ofW (cc := cX0_tells) (maxL := 3) (ret := (some .boolean)) (by decide) rfl ?_
  intro p e s m args below meth c s₁ B hml hv
  obtain ⟨rfl, X, hS, hr, hlocks⟩ := am_in B hv
  refine am_entry (Nat.le_of_ble_eq_true rfl) (fun ls hl => ?_)
  exact wX0_tells X hml ⟨Nat.le_refl _, Nat.le_refl _⟩ hf (fun pc H locs ls hn hd hS => am_ri X hS hr hn hd hlocks) _ _ ls hS hl
set_option maxHeartbeats 4000000 in
set_option maxRecDepth 100000 in
theorem wX0_isRight {p : Program} {l : Launch} {e : Env} {R : Room} {s : State} {m : MethodId} {args : Array Value} {below : List Frame} {meth : Method} {c : Code} {Q : State → Prop} {E : Ev} (X : Cx p s m args c cX0_isRight RX0 E) (hml : c.maxLocals = 4) (hR : 0 ≤ R.frames ∧ 0 ≤ R.locals) {x0 : Nat} {x1 : Nat} {mm : Mem} {r : Int32} (hf : fX0_isRight (eS E) x0 x1 mm = some r) (hret : ∀ (pc : Nat) (H : Heap) (locs : List Loc) (ls : Array Slot), narrow .boolean (.int r) = .int r → decode cX0_isRight pc = .ok (.ireturn, 1) → wS E s mm H locs → W p l e R s m args below meth c H locs 0 0 Q (F0 m pc ls [.int r])) : ∀ (H : Heap) (locs : List Loc) (ls : Array Slot), wS E s mm H locs → lv_has ls 4 [(0, .ref x0), (1, .ref x1)] → W p l e R s m args below meth c H locs 0 0 Q (F0 m 0 ls []) := by
  have hx := X.1
  have hb := X.2.1
  have hR1 := hR.1
  have hR2 := hR.2
  have hRa : 0 ≤ R.frames := by omega
  have hRb : 0 ≤ R.locals := by omega
  unfold fX0_isRight at hf
  have hj47 : ∀ (H : Heap) (locs : List Loc) (ls : Array Slot), fX0_isRight_j47 (eS E) mm = some r → wS E s mm H locs → lv_has ls 4 [] → W p l e R s m args below meth c H locs 0 0 Q (F0 m 47 ls []) := by
    intro H locs ls hf hS hl
    unfold fX0_isRight_j47 at hf
    refine lv_iconst (v := 1) hx hb dX0_isRight_47 (by decide) ?_
    cases hf
    exact hret _ _ _ _ rfl dX0_isRight_48 hS
  have hj39 : ∀ (H : Heap) (locs : List Loc) (ls : Array Slot), fX0_isRight_j39 (eS E) mm = some r → wS E s mm H locs → lv_has ls 4 [] → W p l e R s m args below meth c H locs 0 0 Q (F0 m 39 ls []) := by
    intro H locs ls hf hS hl
    unfold fX0_isRight_j39 at hf
    refine lv_iconst (v := 0) hx hb dX0_isRight_39 (by decide) ?_
    cases hf
    exact hret _ _ _ _ rfl dX0_isRight_40 hS
  intro H locs ls hS hl
  refine lv_iconst (v := 0) hx hb dX0_isRight_0 (by decide) ?_
  refine lv_topi (fun x2_1 e1 => ?_)
  have hf := lt1_n e1 hf
  refine lv_istore_n (lv' := [(2, .int x2_1), (0, .ref x0), (1, .ref x1)]) hx hb dX0_isRight_1 rfl hl (by decide) rfl (fun ls hl => ?_)
  obtain ⟨ex2, hl2, hk2⟩ := bs hf
  refine loop_W (P := fun st => ∀ (H : Heap) (locs : List Loc) (ls : Array Slot), wS E s mm H locs → lv_has ls 4 [(0, .ref x0), (1, .ref x1), (2, .int st)] → W p l e R s m args below meth c H locs 0 0 Q (F0 m 2 ls [])) (ex := ex2) ?_ FU _ hl2 H locs ls hS (lv_sub hl [1, 2, 0] rfl)
  intro st y2 hf hyL2 hyR2 H locs ls hS hl
  obtain ⟨x2, rfl⟩ : ∃ z, z = st := ⟨_, rfl⟩
  have hf : fX0_isRight_b2 (eS E) x0 x1 x2 mm = some y2 := hf
  have hS : wS E s mm H locs := hS
  have hl : lv_has ls 4 [(0, .ref x0), (1, .ref x1), (2, .int x2)] := hl
  unfold fX0_isRight_b2 at hf
  refine lv_iload_n hx hb dX0_isRight_2 rfl (lv_at hl 2 rfl) ?_
  refine lv_aload_n hx hb dX0_isRight_3 rfl (lv_at hl 0 rfl) ?_
  obtain ⟨v2, h1, hf⟩ := bs hf
  refine am_gi X hS fl_X0_24 rfl h1 dX0_isRight_4 ?_
  refine lv_icmp_ge (tgt := 47) hx hb dX0_isRight_7 (by decide) (fun q3 => ?_) (fun q3 => ?_)
  · have hf := ifp hf q3
    obtain rfl : Sum.inr (()) = ex2 := hyR2 _ (Option.some.inj hf).symm
    exact hj47  H locs ls hk2 hS (lv_sub hl [] rfl)
  · have hf := ifn hf q3
    refine lv_aload_n hx hb dX0_isRight_10 rfl (lv_at hl 0 rfl) ?_
    obtain ⟨a4, h1, hf⟩ := bs hf
    refine am_gr X hS fl_X0_9 rfl h1 dX0_isRight_11 ?_
    refine lv_iload_n hx hb dX0_isRight_14 rfl (lv_at hl 2 rfl) ?_
    obtain ⟨v5, h1, hf⟩ := bs hf
    refine am_ald X hS h1 dX0_isRight_15 ?_
    refine lv_topi (fun x3_6 e1 => ?_)
    have hf := lt1_n e1 hf
    refine lv_istore_n (lv' := [(3, .int x3_6), (0, .ref x0), (1, .ref x1), (2, .int x2)]) hx hb dX0_isRight_16 rfl hl (by decide) rfl (fun ls hl => ?_)
    refine lv_iload_n hx hb dX0_isRight_17 rfl (lv_at hl 0 rfl) ?_
    refine lv_if_lt (tgt := 39) hx hb dX0_isRight_18 (by decide) (fun q7 => ?_) (fun q7 => ?_)
    · have hf := ifp hf q7
      obtain rfl : Sum.inl () = ex2 := hyR2 _ (Option.some.inj hf).symm
      exact hj39  H locs ls hk2 hS (lv_sub hl [] rfl)
    · have hf := ifn hf q7
      refine lv_iload_n hx hb dX0_isRight_21 rfl (lv_at hl 0 rfl) ?_
      refine lv_aload_n hx hb dX0_isRight_22 rfl (lv_at hl 2 rfl) ?_
      obtain ⟨v8, h1, hf⟩ := bs hf
      refine am_len X hS h1 dX0_isRight_23 ?_
      refine lv_icmp_ge (tgt := 39) hx hb dX0_isRight_24 (by decide) (fun q9 => ?_) (fun q9 => ?_)
      · have hf := ifp hf q9
        obtain rfl : Sum.inl () = ex2 := hyR2 _ (Option.some.inj hf).symm
        exact hj39  H locs ls hk2 hS (lv_sub hl [] rfl)
      · have hf := ifn hf q9
        refine lv_aload_n hx hb dX0_isRight_27 rfl (lv_at hl 2 rfl) ?_
        refine lv_iload_n hx hb dX0_isRight_28 rfl (lv_at hl 0 rfl) ?_
        obtain ⟨v10, h1, hf⟩ := bs hf
        refine am_ald X hS h1 dX0_isRight_29 ?_
        refine lv_aload_n hx hb dX0_isRight_30 rfl (lv_at hl 1 rfl) ?_
        obtain ⟨a11, h1, hf⟩ := bs hf
        refine am_gr X hS fl_X0_15 rfl h1 dX0_isRight_31 ?_
        refine lv_iload_n hx hb dX0_isRight_34 rfl (lv_at hl 3 rfl) ?_
        obtain ⟨v12, h1, hf⟩ := bs hf
        refine am_ald X hS h1 dX0_isRight_35 ?_
        refine lv_icmp_eq (tgt := 41) hx hb dX0_isRight_36 (by decide) (fun q13 => ?_) (fun q13 => ?_)
        · have hf := ifp hf q13
          obtain ⟨x2_14, e1⟩ : ∃ z : Int32, z = x2 + 1 := ⟨_, rfl⟩
          have hf := lt1_n e1 hf
          refine lv_iinc (v := x2_14) (lv' := [(2, .int x2_14), (3, .int x3_6), (0, .ref x0), (1, .ref x1)]) hx hb dX0_isRight_41 hl (k := 3) rfl (by rw [e1]; rfl) (by decide) rfl (fun ls hl => ?_)
          refine lv_goto (tgt := 2) hx hb dX0_isRight_44 (by decide) ?_
          exact hyL2 _ (Option.some.inj hf).symm H locs ls hS (lv_sub hl [2, 3, 0] rfl)
        · have hf := ifn hf q13
          obtain rfl : Sum.inl () = ex2 := hyR2 _ (Option.some.inj hf).symm
          exact hj39  H locs ls hk2 hS (lv_sub hl [] rfl)
set_option maxRecDepth 100000 in
theorem cX0_isRight_ok {l : Launch} {E : Ev} {x0 : Nat} {x1 : Nat} {mm : Mem} {r : Int32} (hf : fX0_isRight (eS E) x0 x1 mm = some r) : CtI l yX0_isRight cX0_isRight 4 (some .boolean) (0) (0) E [.ref x0, .ref x1] mm r mm := by
  refine Met.ofW (cc := cX0_isRight) (maxL := 4) (ret := (some .boolean)) (by decide) rfl ?_
  intro p e s m args below meth c s₁ B hml hv
  obtain ⟨rfl, X, hS, hr, hlocks⟩ := am_in B hv
  refine am_entry (Nat.le_of_ble_eq_true rfl) (fun ls hl => ?_)
  exact wX0_isRight X hml ⟨Nat.le_refl _, Nat.le_refl _⟩ hf (fun pc H locs ls hn hd hS => am_ri X hS hr hn hd hlocks) _ _ ls hS hl
set_option maxHeartbeats 4000000 in
set_option maxRecDepth 100000 in
theorem wX1_copyFrom {p : Program} {l : Launch} {e : Env} {R : Room} {s : State} {m : MethodId} {args : Array Value} {below : List Frame} {meth : Method} {c : Code} {Q : State → Prop} {E : Ev} (X : Cx p s m args c cX1_copyFrom RX1 E) (hml : c.maxLocals = 2) (hR : 1 ≤ R.frames ∧ 60 ≤ R.locals) {x0 : Nat} {x1 : Nat} {mm : Mem} {mm1 : Mem} (hf : fX1_copyFrom (eS E) x0 x1 mm = some mm1) (hret : ∀ (pc : Nat) (H : Heap) (locs : List Loc) (ls : Array Slot), decode cX1_copyFrom pc = .ok (.return_, 1) → wS E s mm1 H locs → W p l e R s m args below meth c H locs 0 0 Q (F0 m pc ls [])) : ∀ (H : Heap) (locs : List Loc) (ls : Array Slot), wS E s mm H locs → lv_has ls 2 [(0, .ref x0), (1, .ref x1)] → W p l e R s m args below meth c H locs 0 0 Q (F0 m 0 ls []) := by
  have hx := X.1
  have hb := X.2.1
  have hR1 := hR.1
  have hR2 := hR.2
  have hRa : 1 ≤ R.frames := by omega
  have hRb : 60 ≤ R.locals := by omega
  unfold fX1_copyFrom at hf
  intro H locs ls hS hl
  refine lv_aload_n hx hb dX1_copyFrom_0 rfl (lv_at hl 1 rfl) ?_
  obtain ⟨a1, h1, hf⟩ := bs hf
  refine am_gr X hS fl_X1_9 rfl h1 dX1_copyFrom_1 ?_
  refine lv_iconst (v := 0) hx hb dX1_copyFrom_4 (by decide) ?_
  refine lv_aload_n hx hb dX1_copyFrom_5 rfl (lv_at hl 0 rfl) ?_
  obtain ⟨a2, h1, hf⟩ := bs hf
  refine am_gr X hS fl_X1_9 rfl h1 dX1_copyFrom_6 ?_
  refine lv_iconst (v := 0) hx hb dX1_copyFrom_9 (by decide) ?_
  refine lv_bipush (v := 42) hx hb dX1_copyFrom_10 (by decide) ?_
  obtain ⟨m3, h1, hf⟩ := bs hf
  refine am_cpy X (hml.trans hl.1.symm) hS h1 (inBi 754 (by decide +kernel)) (inBi 521 (by decide +kernel)) (inBi 520 (by decide +kernel)) (inBi 118 (by decide +kernel)) (Nat.le_trans (by decide) hRa) (Nat.le_trans (by decide) hRb) dX1_copyFrom_12 (fun H locs hS => ?_)
  refine lv_aload_n hx hb dX1_copyFrom_15 rfl (lv_at hl 1 rfl) ?_
  obtain ⟨a4, h1, hf⟩ := bs hf
  refine am_gr X hS fl_X1_15 rfl h1 dX1_copyFrom_16 ?_
  refine lv_iconst (v := 0) hx hb dX1_copyFrom_19 (by decide) ?_
  refine lv_aload_n hx hb dX1_copyFrom_20 rfl (lv_at hl 0 rfl) ?_
  obtain ⟨a5, h1, hf⟩ := bs hf
  refine am_gr X hS fl_X1_15 rfl h1 dX1_copyFrom_21 ?_
  refine lv_iconst (v := 0) hx hb dX1_copyFrom_24 (by decide) ?_
  refine lv_bipush (v := 8) hx hb dX1_copyFrom_25 (by decide) ?_
  obtain ⟨m6, h1, hf⟩ := bs hf
  refine am_cpy X (hml.trans hl.1.symm) hS h1 (inBi 754 (by decide +kernel)) (inBi 521 (by decide +kernel)) (inBi 520 (by decide +kernel)) (inBi 118 (by decide +kernel)) (Nat.le_trans (by decide) hRa) (Nat.le_trans (by decide) hRb) dX1_copyFrom_27 (fun H locs hS => ?_)
  refine lv_aload_n hx hb dX1_copyFrom_30 rfl (lv_at hl 1 rfl) ?_
  obtain ⟨a7, h1, hf⟩ := bs hf
  refine am_gr X hS fl_X1_18 rfl h1 dX1_copyFrom_31 ?_
  refine lv_iconst (v := 0) hx hb dX1_copyFrom_34 (by decide) ?_
  refine lv_aload_n hx hb dX1_copyFrom_35 rfl (lv_at hl 0 rfl) ?_
  obtain ⟨a8, h1, hf⟩ := bs hf
  refine am_gr X hS fl_X1_18 rfl h1 dX1_copyFrom_36 ?_
  refine lv_iconst (v := 0) hx hb dX1_copyFrom_39 (by decide) ?_
  refine lv_bipush (v := 8) hx hb dX1_copyFrom_40 (by decide) ?_
  obtain ⟨m9, h1, hf⟩ := bs hf
  refine am_cpy X (hml.trans hl.1.symm) hS h1 (inBi 754 (by decide +kernel)) (inBi 521 (by decide +kernel)) (inBi 520 (by decide +kernel)) (inBi 118 (by decide +kernel)) (Nat.le_trans (by decide) hRa) (Nat.le_trans (by decide) hRb) dX1_copyFrom_42 (fun H locs hS => ?_)
  refine lv_aload_n hx hb dX1_copyFrom_45 rfl (lv_at hl 0 rfl) ?_
  refine lv_aload_n hx hb dX1_copyFrom_46 rfl (lv_at hl 1 rfl) ?_
  obtain ⟨v10, h1, hf⟩ := bs hf
  refine am_gi X hS fl_X1_31 rfl h1 dX1_copyFrom_47 ?_
  obtain ⟨m11, h1, hf⟩ := bs hf
  refine am_pi X hS fp_X1_31 rfl h1 dX1_copyFrom_50 (fun H locs hS => ?_)
  refine lv_aload_n hx hb dX1_copyFrom_53 rfl (lv_at hl 0 rfl) ?_
  refine lv_aload_n hx hb dX1_copyFrom_54 rfl (lv_at hl 1 rfl) ?_
  obtain ⟨v12, h1, hf⟩ := bs hf
  refine am_gi X hS fl_X1_34 rfl h1 dX1_copyFrom_55 ?_
  obtain ⟨m13, h1, hf⟩ := bs hf
  refine am_pi X hS fp_X1_34 rfl h1 dX1_copyFrom_58 (fun H locs hS => ?_)
  refine lv_aload_n hx hb dX1_copyFrom_61 rfl (lv_at hl 0 rfl) ?_
  refine lv_aload_n hx hb dX1_copyFrom_62 rfl (lv_at hl 1 rfl) ?_
  obtain ⟨v14, h1, hf⟩ := bs hf
  refine am_gi X hS fl_X1_21 rfl h1 dX1_copyFrom_63 ?_
  obtain ⟨m15, h1, hf⟩ := bs hf
  refine am_pi X hS fp_X1_21 rfl h1 dX1_copyFrom_66 (fun H locs hS => ?_)
  cases hf
  exact hret _ _ _ _ dX1_copyFrom_69 hS
set_option maxRecDepth 100000 in
theorem cX1_copyFrom_ok {l : Launch} {E : Ev} {x0 : Nat} {x1 : Nat} {mm : Mem} {mm1 : Mem} (hf : fX1_copyFrom (eS E) x0 x1 mm = some mm1) : CtV l yX1_copyFrom cX1_copyFrom 2 none (1) (60) E [.ref x0, .ref x1] mm mm1 := by
  refine Met.ofW (cc := cX1_copyFrom) (maxL := 2) (ret := none) (by decide) rfl ?_
  intro p e s m args below meth c s₁ B hml hv
  obtain ⟨rfl, X, hS, hr, hlocks⟩ := am_in B hv
  refine am_entry (Nat.le_of_ble_eq_true rfl) (fun ls hl => ?_)
  exact wX1_copyFrom X hml ⟨Nat.le_refl _, Nat.le_refl _⟩ hf (fun pc H locs ls hd hS => am_rv X hS hr hd hlocks) _ _ ls hS hl
set_option maxHeartbeats 4000000 in
set_option maxRecDepth 100000 in
theorem wX1_parts {p : Program} {l : Launch} {e : Env} {R : Room} {s : State} {m : MethodId} {args : Array Value} {below : List Frame} {meth : Method} {c : Code} {Q : State → Prop} {E : Ev} (X : Cx p s m args c cX1_parts RX1 E) (hml : c.maxLocals = 2) (hR : 0 ≤ R.frames ∧ 0 ≤ R.locals) {x0 : Nat} {x1 : Int32} {mm : Mem} {r : Int32} (hf : fX1_parts (eS E) x0 x1 mm = some r) (hret : ∀ (pc : Nat) (H : Heap) (locs : List Loc) (ls : Array Slot), narrow .boolean (.int r) = .int r → decode cX1_parts pc = .ok (.ireturn, 1) → wS E s mm H locs → W p l e R s m args below meth c H locs 0 0 Q (F0 m pc ls [.int r])) : ∀ (H : Heap) (locs : List Loc) (ls : Array Slot), wS E s mm H locs → lv_has ls 2 [(0, .ref x0), (1, .int x1)] → W p l e R s m args below meth c H locs 0 0 Q (F0 m 0 ls []) := by
  have hx := X.1
  have hb := X.2.1
  have hR1 := hR.1
  have hR2 := hR.2
  have hRa : 0 ≤ R.frames := by omega
  have hRb : 0 ≤ R.locals := by omega
  unfold fX1_parts at hf
  have hj14 : ∀ (s0 : Int32) (H : Heap) (locs : List Loc) (ls : Array Slot), fX1_parts_j14 (eS E) s0 mm = some r → wS E s mm H locs → lv_has ls 2 [] → W p l e R s m args below meth c H locs 0 0 Q (F0 m 14 ls [.int s0]) := by
    intro s0 H locs ls hf hS hl
    unfold fX1_parts_j14 at hf
    obtain ⟨v1, h1, hf⟩ := bs hf
    obtain ⟨rfl, h2⟩ := ckZ_n h1
    cases hf
    exact hret _ _ _ _ h2 dX1_parts_14 hS
  intro H locs ls hS hl
  refine lv_aload_n hx hb dX1_parts_0 rfl (lv_at hl 0 rfl) ?_
  obtain ⟨a2, h1, hf⟩ := bs hf
  refine am_gr X hS fl_X1_18 rfl h1 dX1_parts_1 ?_
  refine lv_iload_n hx hb dX1_parts_4 rfl (lv_at hl 1 rfl) ?_
  obtain ⟨v3, h1, hf⟩ := bs hf
  refine am_ald X hS h1 dX1_parts_5 ?_
  refine lv_if_ne (tgt := 13) hx hb dX1_parts_6 (by decide) (fun q4 => ?_) (fun q4 => ?_)
  · have hf := ifn hf q4
    refine lv_iconst (v := 0) hx hb dX1_parts_13 (by decide) ?_
    exact hj14 0 H locs ls hf hS (lv_sub hl [] rfl)
  · have hf := ifp hf q4
    refine lv_iconst (v := 1) hx hb dX1_parts_9 (by decide) ?_
    refine lv_goto (tgt := 14) hx hb dX1_parts_10 (by decide) ?_
    exact hj14 1 H locs ls hf hS (lv_sub hl [] rfl)
set_option maxRecDepth 100000 in
theorem cX1_parts_ok {l : Launch} {E : Ev} {x0 : Nat} {x1 : Int32} {mm : Mem} {r : Int32} (hf : fX1_parts (eS E) x0 x1 mm = some r) : CtI l yX1_parts cX1_parts 2 (some .boolean) (0) (0) E [.ref x0, .int x1] mm r mm := by
  refine Met.ofW (cc := cX1_parts) (maxL := 2) (ret := (some .boolean)) (by decide) rfl ?_
  intro p e s m args below meth c s₁ B hml hv
  obtain ⟨rfl, X, hS, hr, hlocks⟩ := am_in B hv
  refine am_entry (Nat.le_of_ble_eq_true rfl) (fun ls hl => ?_)
  exact wX1_parts X hml ⟨Nat.le_refl _, Nat.le_refl _⟩ hf (fun pc H locs ls hn hd hS => am_ri X hS hr hn hd hlocks) _ _ ls hS hl
set_option maxHeartbeats 4000000 in
set_option maxRecDepth 100000 in
theorem wX8_isRead {p : Program} {l : Launch} {e : Env} {R : Room} {s : State} {m : MethodId} {args : Array Value} {below : List Frame} {meth : Method} {c : Code} {Q : State → Prop} {E : Ev} (X : Cx p s m args c cX8_isRead RX8 E) (hml : c.maxLocals = 5) (hR : 4 ≤ R.frames ∧ 85 ≤ R.locals) {x0 : Nat} {x1 : Nat} {x2 : Int32} {x3 : Int32} {mm : Mem} {r : Int32} (hf : fX8_isRead (eS E) x0 x1 x2 x3 mm = some r) (hret : ∀ (pc : Nat) (H : Heap) (locs : List Loc) (ls : Array Slot), narrow .boolean (.int r) = .int r → decode cX8_isRead pc = .ok (.ireturn, 1) → wS E s mm H locs → W p l e R s m args below meth c H locs 0 0 Q (F0 m pc ls [.int r])) : ∀ (H : Heap) (locs : List Loc) (ls : Array Slot), wS E s mm H locs → lv_has ls 5 [(0, .ref x0), (1, .ref (eK E x1)), (2, .int x2), (3, .int x3)] → W p l e R s m args below meth c H locs 0 0 Q (F0 m 0 ls []) := by
  have hx := X.1
  have hb := X.2.1
  have hR1 := hR.1
  have hR2 := hR.2
  have hRa : 4 ≤ R.frames := by omega
  have hRb : 85 ≤ R.locals := by omega
  unfold fX8_isRead at hf
  have hj40 : ∀ (H : Heap) (locs : List Loc) (ls : Array Slot), fX8_isRead_j40 (eS E) mm = some r → wS E s mm H locs → lv_has ls 5 [] → W p l e R s m args below meth c H locs 0 0 Q (F0 m 40 ls []) := by
    intro H locs ls hf hS hl
    unfold fX8_isRead_j40 at hf
    refine lv_iconst (v := 1) hx hb dX8_isRead_40 (by decide) ?_
    cases hf
    exact hret _ _ _ _ rfl dX8_isRead_41 hS
  have hj32 : ∀ (H : Heap) (locs : List Loc) (ls : Array Slot), fX8_isRead_j32 (eS E) mm = some r → wS E s mm H locs → lv_has ls 5 [] → W p l e R s m args below meth c H locs 0 0 Q (F0 m 32 ls []) := by
    intro H locs ls hf hS hl
    unfold fX8_isRead_j32 at hf
    refine lv_iconst (v := 0) hx hb dX8_isRead_32 (by decide) ?_
    cases hf
    exact hret _ _ _ _ rfl dX8_isRead_33 hS
  intro H locs ls hS hl
  refine lv_iload_n hx hb dX8_isRead_0 rfl (lv_at hl 3 rfl) ?_
  refine lv_topi (fun x4_1 e1 => ?_)
  have hf := lt1_n e1 hf
  refine lv_istore (lv' := [(4, .int x4_1), (0, .ref x0), (1, .ref (eK E x1)), (2, .int x2), (3, .int x3)]) hx hb dX8_isRead_1 hl (by decide) rfl (fun ls hl => ?_)
  obtain ⟨ex3, hl3, hk3⟩ := bs hf
  refine loop_W (P := fun st => ∀ (H : Heap) (locs : List Loc) (ls : Array Slot), wS E s mm H locs → lv_has ls 5 [(0, .ref x0), (1, .ref (eK E x1)), (2, .int x2), (3, .int x3), (4, .int st)] → W p l e R s m args below meth c H locs 0 0 Q (F0 m 3 ls [])) (ex := ex3) ?_ FU _ hl3 H locs ls hS (lv_sub hl [1, 2, 3, 4, 0] rfl)
  intro st y3 hf hyL3 hyR3 H locs ls hS hl
  obtain ⟨x4, rfl⟩ : ∃ z, z = st := ⟨_, rfl⟩
  have hf : fX8_isRead_b3 (eS E) x0 x1 x2 x3 x4 mm = some y3 := hf
  have hS : wS E s mm H locs := hS
  have hl : lv_has ls 5 [(0, .ref x0), (1, .ref (eK E x1)), (2, .int x2), (3, .int x3), (4, .int x4)] := hl
  unfold fX8_isRead_b3 at hf
  refine lv_iload hx hb dX8_isRead_3 (lv_at hl 4 rfl) ?_
  refine lv_aload_n hx hb dX8_isRead_5 rfl (lv_at hl 0 rfl) ?_
  obtain ⟨v2, h1, hf⟩ := bs hf
  refine am_gi X hS fl_X8_25 rfl h1 dX8_isRead_6 ?_
  refine lv_icmp_ge (tgt := 40) hx hb dX8_isRead_9 (by decide) (fun q3 => ?_) (fun q3 => ?_)
  · have hf := ifp hf q3
    obtain rfl : Sum.inr (()) = ex3 := hyR3 _ (Option.some.inj hf).symm
    exact hj40  H locs ls hk3 hS (lv_sub hl [] rfl)
  · have hf := ifn hf q3
    refine lv_aload_n hx hb dX8_isRead_12 rfl (lv_at hl 1 rfl) ?_
    refine lv_iload_n hx hb dX8_isRead_13 rfl (lv_at hl 2 rfl) ?_
    refine lv_iload hx hb dX8_isRead_14 (lv_at hl 4 rfl) ?_
    refine lv_iadd hx hb dX8_isRead_16 ?_
    refine lv_iload_n hx hb dX8_isRead_17 rfl (lv_at hl 3 rfl) ?_
    refine lv_isub hx hb dX8_isRead_18 ?_
    obtain ⟨v4, h1, hf⟩ := bs hf
    refine am_endi hS (am_runVS (As := [.int ((x2 + x4) - x3)]) X (hml.trans hl.1.symm) hS (sCh_n h1).1 rfl (cJ0_charAt_5068e_ok (l := l) (E := E) h1) mv_X8_58 ⟨Nat.le_trans (by decide) hRa, Nat.le_trans (by decide) hRb⟩ ⟨Nat.zero_le _, Nat.zero_le _⟩ rfl rfl (Nat.le_of_ble_eq_true rfl) dX8_isRead_19) (fun H locs hS => ?_)
    refine lv_aload_n hx hb dX8_isRead_22 rfl (lv_at hl 0 rfl) ?_
    obtain ⟨a5, h1, hf⟩ := bs hf
    refine am_gr X hS fl_X8_9 rfl h1 dX8_isRead_23 ?_
    refine lv_iload hx hb dX8_isRead_26 (lv_at hl 4 rfl) ?_
    obtain ⟨v6, h1, hf⟩ := bs hf
    refine am_ald X hS h1 dX8_isRead_28 ?_
    refine lv_icmp_eq (tgt := 34) hx hb dX8_isRead_29 (by decide) (fun q7 => ?_) (fun q7 => ?_)
    · have hf := ifp hf q7
      obtain ⟨x4_8, e1⟩ : ∃ z : Int32, z = x4 + 1 := ⟨_, rfl⟩
      have hf := lt1_n e1 hf
      refine lv_iinc (v := x4_8) (lv' := [(4, .int x4_8), (0, .ref x0), (1, .ref (eK E x1)), (2, .int x2), (3, .int x3)]) hx hb dX8_isRead_34 hl (k := 4) rfl (by rw [e1]; rfl) (by decide) rfl (fun ls hl => ?_)
      refine lv_goto (tgt := 3) hx hb dX8_isRead_37 (by decide) ?_
      exact hyL3 _ (Option.some.inj hf).symm H locs ls hS (lv_sub hl [1, 2, 3, 4, 0] rfl)
    · have hf := ifn hf q7
      obtain rfl : Sum.inl () = ex3 := hyR3 _ (Option.some.inj hf).symm
      exact hj32  H locs ls hk3 hS (lv_sub hl [] rfl)
set_option maxRecDepth 100000 in
theorem cX8_isRead_ok {l : Launch} {E : Ev} {x0 : Nat} {x1 : Nat} {x2 : Int32} {x3 : Int32} {mm : Mem} {r : Int32} (hf : fX8_isRead (eS E) x0 x1 x2 x3 mm = some r) : CtI l yX8_isRead cX8_isRead 5 (some .boolean) (4) (85) E [.ref x0, .ref (eK E x1), .int x2, .int x3] mm r mm := by
  refine Met.ofW (cc := cX8_isRead) (maxL := 5) (ret := (some .boolean)) (by decide) rfl ?_
  intro p e s m args below meth c s₁ B hml hv
  obtain ⟨rfl, X, hS, hr, hlocks⟩ := am_in B hv
  refine am_entry (Nat.le_of_ble_eq_true rfl) (fun ls hl => ?_)
  exact wX8_isRead X hml ⟨Nat.le_refl _, Nat.le_refl _⟩ hf (fun pc H locs ls hn hd hS => am_ri X hS hr hn hd hlocks) _ _ ls hS hl
set_option maxHeartbeats 4000000 in
set_option maxRecDepth 100000 in
theorem wX8_word {p : Program} {l : Launch} {e : Env} {R : Room} {s : State} {m : MethodId} {args : Array Value} {below : List Frame} {meth : Method} {c : Code} {Q : State → Prop} {E : Ev} (X : Cx p s m args c cX8_word RX8 E) (hml : c.maxLocals = 6) (hR : 5 ≤ R.frames ∧ 109 ≤ R.locals) {x0 : Nat} {x1 : Nat} {mm : Mem} {r : Int32} {mm1 : Mem} (hf : fX8_word (eS E) x0 x1 mm = some (r, mm1)) (hret : ∀ (pc : Nat) (H : Heap) (locs : List Loc) (ls : Array Slot), narrow .int (.int r) = .int r → decode cX8_word pc = .ok (.ireturn, 1) → wS E s mm1 H locs → W p l e R s m args below meth c H locs 0 0 Q (F0 m pc ls [.int r])) : ∀ (H : Heap) (locs : List Loc) (ls : Array Slot), wS E s mm H locs → lv_has ls 6 [(0, .ref x0), (1, .ref (eK E x1))] → W p l e R s m args below meth c H locs 0 0 Q (F0 m 0 ls []) := by
  have hx := X.1
  have hb := X.2.1
  have hR1 := hR.1
  have hR2 := hR.2
  have hRa : 5 ≤ R.frames := by omega
  have hRb : 109 ≤ R.locals := by omega
  unfold fX8_word at hf
  have hj127 : ∀ (x0 : Nat) (x2 : Int32) (mm : Mem) (H : Heap) (locs : List Loc) (ls : Array Slot), fX8_word_j127 (eS E) x0 x2 mm = some (r, mm1) → wS E s mm H locs → lv_has ls 6 [(0, .ref x0), (2, .int x2)] → W p l e R s m args below meth c H locs 0 0 Q (F0 m 127 ls []) := by
    intro x0 x2 mm H locs ls hf hS hl
    unfold fX8_word_j127 at hf
    refine lv_aload_n hx hb dX8_word_127 rfl (lv_at hl 0 rfl) ?_
    refine lv_iconst (v := 1) hx hb dX8_word_128 (by decide) ?_
    refine lv_iload_n hx hb dX8_word_129 rfl (lv_at hl 1 rfl) ?_
    obtain ⟨u0, h0, hf⟩ := bs hf
    obtain ⟨_, hrc⟩ := isO_n h0
    obtain ⟨v1, m2, h1, hf⟩ := bs2 hf
    refine am_endi hS (am_runV (As := [.int 1, .int x2]) X (hml.trans hl.1.symm) hS (cX8_fail_ok (l := l) (E := E) h1) mv_X8_43 hrc rfl ⟨Nat.le_trans (by decide) hRa, Nat.le_trans (by decide) hRb⟩ ⟨Nat.zero_le _, Nat.zero_le _⟩ rfl rfl (Nat.le_of_ble_eq_true rfl) dX8_word_130) (fun H locs hS => ?_)
    refine lv_pop hx hb dX8_word_133 rfl ?_
    refine lv_iconst (v := (-1)) hx hb dX8_word_134 (by decide) ?_
    cases hf
    exact hret _ _ _ _ rfl dX8_word_135 hS
  have hj110 : ∀ (x3 : Int32) (mm : Mem) (H : Heap) (locs : List Loc) (ls : Array Slot), fX8_word_j110 (eS E) x3 mm = some (r, mm1) → wS E s mm H locs → lv_has ls 6 [(3, .int x3)] → W p l e R s m args below meth c H locs 0 0 Q (F0 m 110 ls []) := by
    intro x3 mm H locs ls hf hS hl
    unfold fX8_word_j110 at hf
    refine lv_iload_n hx hb dX8_word_110 rfl (lv_at hl 0 rfl) ?_
    cases hf
    exact hret _ _ _ _ rfl dX8_word_111 hS
  have hj57 : ∀ (x0 : Nat) (x1 : Nat) (x2 : Int32) (mm : Mem) (H : Heap) (locs : List Loc) (ls : Array Slot), fX8_word_j57 (eS E) x0 x1 x2 mm = some (r, mm1) → wS E s mm H locs → lv_has ls 6 [(0, .ref x0), (1, .ref (eK E x1)), (2, .int x2)] → W p l e R s m args below meth c H locs 0 0 Q (F0 m 57 ls []) := by
    intro x0 x1 x2 mm H locs ls hf hS hl
    unfold fX8_word_j57 at hf
    refine lv_iconst (v := 0) hx hb dX8_word_57 (by decide) ?_
    refine lv_topi (fun x3_3 e1 => ?_)
    have hf := lt1_n e1 hf
    refine lv_istore_n (lv' := [(3, .int x3_3), (0, .ref x0), (1, .ref (eK E x1)), (2, .int x2)]) hx hb dX8_word_58 rfl hl (by decide) rfl (fun ls hl => ?_)
    refine lv_iconst (v := 0) hx hb dX8_word_59 (by decide) ?_
    refine lv_topi (fun x4_4 e1 => ?_)
    have hf := lt1_n e1 hf
    refine lv_istore (lv' := [(4, .int x4_4), (3, .int x3_3), (0, .ref x0), (1, .ref (eK E x1)), (2, .int x2)]) hx hb dX8_word_60 hl (by decide) rfl (fun ls hl => ?_)
    refine lv_iconst (v := 0) hx hb dX8_word_62 (by decide) ?_
    refine lv_topi (fun x5_5 e1 => ?_)
    have hf := lt1_n e1 hf
    refine lv_istore (lv' := [(5, .int x5_5), (4, .int x4_4), (3, .int x3_3), (0, .ref x0), (1, .ref (eK E x1)), (2, .int x2)]) hx hb dX8_word_63 hl (by decide) rfl (fun ls hl => ?_)
    obtain ⟨ex65, hl65, hk65⟩ := bs hf
    refine loop_W (P := fun st => ∀ (H : Heap) (locs : List Loc) (ls : Array Slot), wS E s mm H locs → lv_has ls 6 [(0, .ref x0), (1, .ref (eK E x1)), (2, .int x2), (3, .int st.1), (4, .int st.2.1), (5, .int st.2.2)] → W p l e R s m args below meth c H locs 0 0 Q (F0 m 65 ls [])) (ex := ex65) ?_ FU _ hl65 H locs ls hS (lv_sub hl [3, 4, 5, 2, 1, 0] rfl)
    intro st y65 hf hyL65 hyR65 H locs ls hS hl
    obtain ⟨x3, x4, x5⟩ := st
    have hf : fX8_word_b65 (eS E) x0 x1 x2 x3 x4 x5 mm = some y65 := hf
    have hS : wS E s mm H locs := hS
    have hl : lv_has ls 6 [(0, .ref x0), (1, .ref (eK E x1)), (2, .int x2), (3, .int x3), (4, .int x4), (5, .int x5)] := hl
    unfold fX8_word_b65 at hf
    have hj121 : ∀ (x3 : Int32) (x4 : Int32) (x5 : Int32) (H : Heap) (locs : List Loc) (ls : Array Slot), fX8_word_j121 (eS E) x0 x1 x2 x3 x4 x5 mm = some y65 → wS E s mm H locs → lv_has ls 6 [(0, .ref x0), (1, .ref (eK E x1)), (2, .int x2), (3, .int x3), (4, .int x4), (5, .int x5)] → W p l e R s m args below meth c H locs 0 0 Q (F0 m 121 ls []) := by
      intro x3 x4 x5 H locs ls hf hS hl
      unfold fX8_word_j121 at hf
      obtain ⟨x5_6, e1⟩ : ∃ z : Int32, z = x5 + 1 := ⟨_, rfl⟩
      have hf := lt1_n e1 hf
      refine lv_iinc (v := x5_6) (lv' := [(5, .int x5_6), (0, .ref x0), (1, .ref (eK E x1)), (2, .int x2), (3, .int x3), (4, .int x4)]) hx hb dX8_word_121 hl (k := 5) rfl (by rw [e1]; rfl) (by decide) rfl (fun ls hl => ?_)
      refine lv_goto (tgt := 65) hx hb dX8_word_124 (by decide) ?_
      exact hyL65 _ (Option.some.inj hf).symm H locs ls hS (lv_sub hl [1, 2, 3, 4, 5, 0] rfl)
    have hj112 : ∀ (x3 : Int32) (x5 : Int32) (H : Heap) (locs : List Loc) (ls : Array Slot), fX8_word_j112 (eS E) x0 x1 x2 x3 x5 mm = some y65 → wS E s mm H locs → lv_has ls 6 [(0, .ref x0), (1, .ref (eK E x1)), (2, .int x2), (3, .int x3), (5, .int x5)] → W p l e R s m args below meth c H locs 0 0 Q (F0 m 112 ls []) := by
      intro x3 x5 H locs ls hf hS hl
      unfold fX8_word_j112 at hf
      obtain ⟨x3_7, e1⟩ : ∃ z : Int32, z = x3 + 1 := ⟨_, rfl⟩
      have hf := lt1_n e1 hf
      refine lv_iinc (v := x3_7) (lv' := [(3, .int x3_7), (0, .ref x0), (1, .ref (eK E x1)), (2, .int x2), (5, .int x5)]) hx hb dX8_word_112 hl (k := 3) rfl (by rw [e1]; rfl) (by decide) rfl (fun ls hl => ?_)
      refine lv_iload hx hb dX8_word_115 (lv_at hl 4 rfl) ?_
      refine lv_iconst (v := 1) hx hb dX8_word_117 (by decide) ?_
      refine lv_iadd hx hb dX8_word_118 ?_
      refine lv_topi (fun x4_8 e1 => ?_)
      have hf := lt1_n e1 hf
      refine lv_istore (lv' := [(4, .int x4_8), (3, .int x3_7), (0, .ref x0), (1, .ref (eK E x1)), (2, .int x2), (5, .int x5)]) hx hb dX8_word_119 hl (by decide) rfl (fun ls hl => ?_)
      exact hj121 x3_7 x4_8 x5 H locs ls hf hS (lv_sub hl [2, 3, 4, 1, 0, 5] rfl)
    refine lv_iload hx hb dX8_word_65 (lv_at hl 5 rfl) ?_
    refine lv_aload_n hx hb dX8_word_67 rfl (lv_at hl 1 rfl) ?_
    obtain ⟨v9, h1, hf⟩ := bs hf
    refine am_endi hS (am_runVS (As := []) X (hml.trans hl.1.symm) hS (sLn_n h1).1 rfl (cJ0_length_8abf5_ok (l := l) (E := E) h1) mv_X8_54 ⟨Nat.le_trans (by decide) hRa, Nat.le_trans (by decide) hRb⟩ ⟨Nat.zero_le _, Nat.zero_le _⟩ rfl rfl (Nat.le_of_ble_eq_true rfl) dX8_word_68) (fun H locs hS => ?_)
    refine lv_icmp_ge (tgt := 127) hx hb dX8_word_71 (by decide) (fun q10 => ?_) (fun q10 => ?_)
    · have hf := ifp hf q10
      obtain rfl : Sum.inr (()) = ex65 := hyR65 _ (Option.some.inj hf).symm
      exact hj127 x0 x2 mm H locs ls hk65 hS (lv_sub hl [0, 2] rfl)
    · have hf := ifn hf q10
      refine lv_aload_n hx hb dX8_word_74 rfl (lv_at hl 1 rfl) ?_
      refine lv_iload hx hb dX8_word_75 (lv_at hl 5 rfl) ?_
      obtain ⟨v11, h1, hf⟩ := bs hf
      refine am_endi hS (am_runVS (As := [.int x5]) X (hml.trans hl.1.symm) hS (sCh_n h1).1 rfl (cJ0_charAt_5068e_ok (l := l) (E := E) h1) mv_X8_58 ⟨Nat.le_trans (by decide) hRa, Nat.le_trans (by decide) hRb⟩ ⟨Nat.zero_le _, Nat.zero_le _⟩ rfl rfl (Nat.le_of_ble_eq_true rfl) dX8_word_77) (fun H locs hS => ?_)
      refine lv_bipush (v := 32) hx hb dX8_word_80 (by decide) ?_
      refine lv_icmp_ne (tgt := 121) hx hb dX8_word_82 (by decide) (fun q12 => ?_) (fun q12 => ?_)
      · have hf := ifn hf q12
        exact hj121 x3 x4 x5 H locs ls hf hS hl
      · have hf := ifp hf q12
        refine lv_iload hx hb dX8_word_85 (lv_at hl 5 rfl) ?_
        refine lv_iload hx hb dX8_word_87 (lv_at hl 4 rfl) ?_
        refine lv_isub hx hb dX8_word_89 ?_
        refine lv_aload_n hx hb dX8_word_90 rfl (lv_at hl 0 rfl) ?_
        obtain ⟨v13, h1, hf⟩ := bs hf
        refine am_gi X hS fl_X8_25 rfl h1 dX8_word_91 ?_
        refine lv_iload_n hx hb dX8_word_94 rfl (lv_at hl 2 rfl) ?_
        refine lv_isub hx hb dX8_word_95 ?_
        refine lv_icmp_ne (tgt := 112) hx hb dX8_word_96 (by decide) (fun q14 => ?_) (fun q14 => ?_)
        · have hf := ifn hf q14
          exact hj112 x3 x5 H locs ls hf hS (lv_sub hl [0, 1, 2, 3, 5] rfl)
        · have hf := ifp hf q14
          refine lv_aload_n hx hb dX8_word_99 rfl (lv_at hl 0 rfl) ?_
          refine lv_aload_n hx hb dX8_word_100 rfl (lv_at hl 1 rfl) ?_
          refine lv_iload hx hb dX8_word_101 (lv_at hl 4 rfl) ?_
          refine lv_iload_n hx hb dX8_word_103 rfl (lv_at hl 2 rfl) ?_
          obtain ⟨u0, h0, hf⟩ := bs hf
          obtain ⟨_, hrc⟩ := isO_n h0
          obtain ⟨v15, h1, hf⟩ := bs hf
          refine am_endi hS (am_runV (As := [.ref (eK E x1), .int x4, .int x2]) X (hml.trans hl.1.symm) hS (cX8_isRead_ok (l := l) (E := E) h1) mv_X8_62 hrc rfl ⟨Nat.le_trans (by decide) hRa, Nat.le_trans (by decide) hRb⟩ ⟨Nat.zero_le _, Nat.zero_le _⟩ rfl rfl (Nat.le_of_ble_eq_true rfl) dX8_word_104) (fun H locs hS => ?_)
          refine lv_if_eq (tgt := 112) hx hb dX8_word_107 (by decide) (fun q16 => ?_) (fun q16 => ?_)
          · have hf := ifp hf q16
            exact hj112 x3 x5 H locs ls hf hS (lv_sub hl [0, 1, 2, 3, 5] rfl)
          · have hf := ifn hf q16
            obtain rfl : Sum.inl x3 = ex65 := hyR65 _ (Option.some.inj hf).symm
            exact hj110 x3 mm H locs ls hk65 hS (lv_sub hl [3] rfl)
  intro H locs ls hS hl
  refine lv_aload_n hx hb dX8_word_0 rfl (lv_at hl 0 rfl) ?_
  obtain ⟨u0, h0, hf⟩ := bs hf
  obtain ⟨_, hrc⟩ := isO_n h0
  obtain ⟨v17, m18, h1, hf⟩ := bs2 hf
  refine am_endi hS (am_runV (As := []) X (hml.trans hl.1.symm) hS (cX8_next_ok (l := l) (E := E) h1) mv_X8_31 hrc rfl ⟨Nat.le_trans (by decide) hRa, Nat.le_trans (by decide) hRb⟩ ⟨Nat.zero_le _, Nat.zero_le _⟩ rfl rfl (Nat.le_of_ble_eq_true rfl) dX8_word_1) (fun H locs hS => ?_)
  refine lv_topi (fun x2_19 e1 => ?_)
  have hf := lt1_n e1 hf
  refine lv_istore_n (lv' := [(2, .int x2_19), (0, .ref x0), (1, .ref (eK E x1))]) hx hb dX8_word_4 rfl hl (by decide) rfl (fun ls hl => ?_)
  obtain ⟨ex5, hl5, hk5⟩ := bs hf
  refine loop_W (P := fun st => ∀ (H : Heap) (locs : List Loc) (ls : Array Slot), wS E s st H locs → lv_has ls 6 [(0, .ref x0), (1, .ref (eK E x1)), (2, .int x2_19)] → W p l e R s m args below meth c H locs 0 0 Q (F0 m 5 ls [])) (ex := ex5) ?_ FU _ hl5 H locs ls hS (lv_sub hl [1, 2, 0] rfl)
  intro st y5 hf hyL5 hyR5 H locs ls hS hl
  obtain ⟨mm, rfl⟩ : ∃ z, z = st := ⟨_, rfl⟩
  obtain ⟨x2, rfl⟩ : ∃ z, z = x2_19 := ⟨_, rfl⟩
  have hf : fX8_word_b5 (eS E) x0 x1 x2 mm = some y5 := hf
  have hS : wS E s mm H locs := hS
  have hl : lv_has ls 6 [(0, .ref x0), (1, .ref (eK E x1)), (2, .int x2)] := hl
  unfold fX8_word_b5 at hf
  refine lv_aload_n hx hb dX8_word_5 rfl (lv_at hl 0 rfl) ?_
  obtain ⟨v20, h1, hf⟩ := bs hf
  refine am_gi X hS fl_X8_25 rfl h1 dX8_word_6 ?_
  refine lv_aload_n hx hb dX8_word_9 rfl (lv_at hl 0 rfl) ?_
  obtain ⟨v21, h1, hf⟩ := bs hf
  refine am_gi X hS fl_X8_22 rfl h1 dX8_word_10 ?_
  refine lv_icmp_ge (tgt := 57) hx hb dX8_word_13 (by decide) (fun q22 => ?_) (fun q22 => ?_)
  · have hf := ifp hf q22
    obtain rfl : mm = ex5 := hyR5 _ (Option.some.inj hf).symm
    exact hj57 x0 x1 x2 mm H locs ls hk5 hS hl
  · have hf := ifn hf q22
    refine lv_aload_n hx hb dX8_word_16 rfl (lv_at hl 0 rfl) ?_
    obtain ⟨a23, h1, hf⟩ := bs hf
    refine am_gr X hS fl_X8_9 rfl h1 dX8_word_17 ?_
    refine lv_aload_n hx hb dX8_word_20 rfl (lv_at hl 0 rfl) ?_
    obtain ⟨v24, h1, hf⟩ := bs hf
    refine am_gi X hS fl_X8_25 rfl h1 dX8_word_21 ?_
    obtain ⟨v25, h1, hf⟩ := bs hf
    refine am_ald X hS h1 dX8_word_24 ?_
    refine lv_bipush (v := 97) hx hb dX8_word_25 (by decide) ?_
    refine lv_icmp_lt (tgt := 57) hx hb dX8_word_27 (by decide) (fun q26 => ?_) (fun q26 => ?_)
    · have hf := ifp hf q26
      obtain rfl : mm = ex5 := hyR5 _ (Option.some.inj hf).symm
      exact hj57 x0 x1 x2 mm H locs ls hk5 hS hl
    · have hf := ifn hf q26
      refine lv_aload_n hx hb dX8_word_30 rfl (lv_at hl 0 rfl) ?_
      obtain ⟨a27, h1, hf⟩ := bs hf
      refine am_gr X hS fl_X8_9 rfl h1 dX8_word_31 ?_
      refine lv_aload_n hx hb dX8_word_34 rfl (lv_at hl 0 rfl) ?_
      obtain ⟨v28, h1, hf⟩ := bs hf
      refine am_gi X hS fl_X8_25 rfl h1 dX8_word_35 ?_
      obtain ⟨v29, h1, hf⟩ := bs hf
      refine am_ald X hS h1 dX8_word_38 ?_
      refine lv_bipush (v := 122) hx hb dX8_word_39 (by decide) ?_
      refine lv_icmp_gt (tgt := 57) hx hb dX8_word_41 (by decide) (fun q30 => ?_) (fun q30 => ?_)
      · have hf := ifp hf q30
        obtain rfl : mm = ex5 := hyR5 _ (Option.some.inj hf).symm
        exact hj57 x0 x1 x2 mm H locs ls hk5 hS hl
      · have hf := ifn hf q30
        refine lv_aload_n hx hb dX8_word_44 rfl (lv_at hl 0 rfl) ?_
        refine lv_dup hx hb dX8_word_45 rfl ?_
        obtain ⟨v31, h1, hf⟩ := bs hf
        refine am_gi X hS fl_X8_25 rfl h1 dX8_word_46 ?_
        refine lv_iconst (v := 1) hx hb dX8_word_49 (by decide) ?_
        refine lv_iadd hx hb dX8_word_50 ?_
        obtain ⟨m32, h1, hf⟩ := bs hf
        refine am_pi X hS fp_X8_25 rfl h1 dX8_word_51 (fun H locs hS => ?_)
        refine lv_goto (tgt := 5) hx hb dX8_word_54 (by decide) ?_
        exact hyL5 _ (Option.some.inj hf).symm H locs ls hS hl
set_option maxRecDepth 100000 in
theorem cX8_word_ok {l : Launch} {E : Ev} {x0 : Nat} {x1 : Nat} {mm : Mem} {r : Int32} {mm1 : Mem} (hf : fX8_word (eS E) x0 x1 mm = some (r, mm1)) : CtI l yX8_word cX8_word 6 (some .int) (5) (109) E [.ref x0, .ref (eK E x1)] mm r mm1 := by
  refine Met.ofW (cc := cX8_word) (maxL := 6) (ret := (some .int)) (by decide) rfl ?_
  intro p e s m args below meth c s₁ B hml hv
  obtain ⟨rfl, X, hS, hr, hlocks⟩ := am_in B hv
  refine am_entry (Nat.le_of_ble_eq_true rfl) (fun ls hl => ?_)
  exact wX8_word X hml ⟨Nat.le_refl _, Nat.le_refl _⟩ hf (fun pc H locs ls hn hd hS => am_ri X hS hr hn hd hlocks) _ _ ls hS hl
set_option maxHeartbeats 4000000 in
set_option maxRecDepth 100000 in
theorem wX1_readFellow {p : Program} {l : Launch} {e : Env} {R : Room} {s : State} {m : MethodId} {args : Array Value} {below : List Frame} {meth : Method} {c : Code} {Q : State → Prop} {E : Ev} (X : Cx p s m args c cX1_readFellow RX1 E) (hml : c.maxLocals = 3) (hR : 2 ≤ R.frames ∧ 47 ≤ R.locals) {x0 : Nat} {x1 : Nat} {mm : Mem} {mm1 : Mem} (hf : fX1_readFellow (eS E) x0 x1 mm = some mm1) (hret : ∀ (pc : Nat) (H : Heap) (locs : List Loc) (ls : Array Slot), decode cX1_readFellow pc = .ok (.return_, 1) → wS E s mm1 H locs → W p l e R s m args below meth c H locs 0 0 Q (F0 m pc ls [])) : ∀ (H : Heap) (locs : List Loc) (ls : Array Slot), wS E s mm H locs → lv_has ls 3 [(0, .ref x0), (1, .ref x1)] → W p l e R s m args below meth c H locs 0 0 Q (F0 m 0 ls []) := by
  have hx := X.1
  have hb := X.2.1
  have hR1 := hR.1
  have hR2 := hR.2
  have hRa : 2 ≤ R.frames := by omega
  have hRb : 47 ≤ R.locals := by omega
  unfold fX1_readFellow at hf
  have hj35 : ∀ (x0 : Nat) (mm : Mem) (H : Heap) (locs : List Loc) (ls : Array Slot), fX1_readFellow_j35 (eS E) x0 mm = some mm1 → wS E s mm H locs → lv_has ls 3 [(0, .ref x0)] → W p l e R s m args below meth c H locs 0 0 Q (F0 m 35 ls []) := by
    intro x0 mm H locs ls hf hS hl
    unfold fX1_readFellow_j35 at hf
    refine lv_aload_n hx hb dX1_readFellow_35 rfl (lv_at hl 0 rfl) ?_
    refine lv_dup hx hb dX1_readFellow_36 rfl ?_
    obtain ⟨v1, h1, hf⟩ := bs hf
    refine am_gi X hS fl_X1_31 rfl h1 dX1_readFellow_37 ?_
    refine lv_iconst (v := 1) hx hb dX1_readFellow_40 (by decide) ?_
    refine lv_iadd hx hb dX1_readFellow_41 ?_
    obtain ⟨m2, h1, hf⟩ := bs hf
    refine am_pi X hS fp_X1_31 rfl h1 dX1_readFellow_42 (fun H locs hS => ?_)
    cases hf
    exact hret _ _ _ _ dX1_readFellow_45 hS
  intro H locs ls hS hl
  refine lv_iconst (v := 0) hx hb dX1_readFellow_0 (by decide) ?_
  refine lv_topi (fun x2_3 e1 => ?_)
  have hf := lt1_n e1 hf
  refine lv_istore_n (lv' := [(2, .int x2_3), (0, .ref x0), (1, .ref x1)]) hx hb dX1_readFellow_1 rfl hl (by decide) rfl (fun ls hl => ?_)
  obtain ⟨ex2, hl2, hk2⟩ := bs hf
  refine loop_W (P := fun st => ∀ (H : Heap) (locs : List Loc) (ls : Array Slot), wS E s st.2 H locs → lv_has ls 3 [(0, .ref x0), (1, .ref x1), (2, .int st.1)] → W p l e R s m args below meth c H locs 0 0 Q (F0 m 2 ls [])) (ex := ex2) ?_ FU _ hl2 H locs ls hS (lv_sub hl [1, 2, 0] rfl)
  intro st y2 hf hyL2 hyR2 H locs ls hS hl
  obtain ⟨x2, mm⟩ := st
  have hf : fX1_readFellow_b2 (eS E) x0 x1 x2 mm = some y2 := hf
  have hS : wS E s mm H locs := hS
  have hl : lv_has ls 3 [(0, .ref x0), (1, .ref x1), (2, .int x2)] := hl
  unfold fX1_readFellow_b2 at hf
  refine lv_iload_n hx hb dX1_readFellow_2 rfl (lv_at hl 2 rfl) ?_
  refine lv_bipush (v := 7) hx hb dX1_readFellow_3 (by decide) ?_
  refine lv_icmp_ge (tgt := 35) hx hb dX1_readFellow_5 (by decide) (fun q4 => ?_) (fun q4 => ?_)
  · have hf := ifp hf q4
    obtain rfl : mm = ex2 := hyR2 _ (Option.some.inj hf).symm
    exact hj35 x0 mm H locs ls hk2 hS (lv_sub hl [0] rfl)
  · have hf := ifn hf q4
    refine lv_aload_n hx hb dX1_readFellow_8 rfl (lv_at hl 0 rfl) ?_
    obtain ⟨a5, h1, hf⟩ := bs hf
    refine am_gr X hS fl_X1_9 rfl h1 dX1_readFellow_9 ?_
    refine lv_aload_n hx hb dX1_readFellow_12 rfl (lv_at hl 0 rfl) ?_
    obtain ⟨v6, h1, hf⟩ := bs hf
    refine am_gi X hS fl_X1_31 rfl h1 dX1_readFellow_13 ?_
    refine lv_bipush (v := 7) hx hb dX1_readFellow_16 (by decide) ?_
    refine lv_imul hx hb dX1_readFellow_18 ?_
    refine lv_iload_n hx hb dX1_readFellow_19 rfl (lv_at hl 2 rfl) ?_
    refine lv_iadd hx hb dX1_readFellow_20 ?_
    refine lv_aload_n hx hb dX1_readFellow_21 rfl (lv_at hl 1 rfl) ?_
    refine lv_iconst (v := 0) hx hb dX1_readFellow_22 (by decide) ?_
    refine lv_bipush (v := 40) hx hb dX1_readFellow_23 (by decide) ?_
    obtain ⟨u0, h0, hf⟩ := bs hf
    obtain ⟨_, hrc⟩ := isO_n h0
    obtain ⟨v7, m8, h1, hf⟩ := bs2 hf
    refine am_endi hS (am_runV (As := [.int 0, .int 40]) X (hml.trans hl.1.symm) hS (cX8_number_ok (l := l) (E := E) h1) mv_X1_74 hrc rfl ⟨Nat.le_trans (by decide) hRa, Nat.le_trans (by decide) hRb⟩ ⟨Nat.zero_le _, Nat.zero_le _⟩ rfl rfl (Nat.le_of_ble_eq_true rfl) dX1_readFellow_25) (fun H locs hS => ?_)
    obtain ⟨m9, h1, hf⟩ := bs hf
    refine am_ast X hS h1 dX1_readFellow_28 (fun H locs hS => ?_)
    obtain ⟨x2_10, e1⟩ : ∃ z : Int32, z = x2 + 1 := ⟨_, rfl⟩
    have hf := lt1_n e1 hf
    refine lv_iinc (v := x2_10) (lv' := [(2, .int x2_10), (0, .ref x0), (1, .ref x1)]) hx hb dX1_readFellow_29 hl (k := 2) rfl (by rw [e1]; rfl) (by decide) rfl (fun ls hl => ?_)
    refine lv_goto (tgt := 2) hx hb dX1_readFellow_32 (by decide) ?_
    exact hyL2 _ (Option.some.inj hf).symm H locs ls hS (lv_sub hl [1, 2, 0] rfl)
set_option maxRecDepth 100000 in
theorem cX1_readFellow_ok {l : Launch} {E : Ev} {x0 : Nat} {x1 : Nat} {mm : Mem} {mm1 : Mem} (hf : fX1_readFellow (eS E) x0 x1 mm = some mm1) : CtV l yX1_readFellow cX1_readFellow 3 none (2) (47) E [.ref x0, .ref x1] mm mm1 := by
  refine Met.ofW (cc := cX1_readFellow) (maxL := 3) (ret := none) (by decide) rfl ?_
  intro p e s m args below meth c s₁ B hml hv
  obtain ⟨rfl, X, hS, hr, hlocks⟩ := am_in B hv
  refine am_entry (Nat.le_of_ble_eq_true rfl) (fun ls hl => ?_)
  exact wX1_readFellow X hml ⟨Nat.le_refl _, Nat.le_refl _⟩ hf (fun pc H locs ls hd hS => am_rv X hS hr hd hlocks) _ _ ls hS hl
set_option maxHeartbeats 4000000 in
set_option maxRecDepth 100000 in
theorem wX1_readClause {p : Program} {l : Launch} {e : Env} {R : Room} {s : State} {m : MethodId} {args : Array Value} {below : List Frame} {meth : Method} {c : Code} {Q : State → Prop} {E : Ev} (X : Cx p s m args c cX1_readClause RX1 E) (hml : c.maxLocals = 5) (hR : 6 ≤ R.frames ∧ 134 ≤ R.locals) {x0 : Nat} {x1 : Nat} {x2 : Int32} {mm : Mem} {mm1 : Mem} (hf : fX1_readClause (eS E) x0 x1 x2 mm = some mm1) (hret : ∀ (pc : Nat) (H : Heap) (locs : List Loc) (ls : Array Slot), decode cX1_readClause pc = .ok (.return_, 1) → wS E s mm1 H locs → W p l e R s m args below meth c H locs 0 0 Q (F0 m pc ls [])) : ∀ (H : Heap) (locs : List Loc) (ls : Array Slot), wS E s mm H locs → lv_has ls 5 [(0, .ref x0), (1, .ref x1), (2, .int x2)] → W p l e R s m args below meth c H locs 0 0 Q (F0 m 0 ls []) := by
  have hx := X.1
  have hb := X.2.1
  have hR1 := hR.1
  have hR2 := hR.2
  have hRa : 6 ≤ R.frames := by omega
  have hRb : 134 ≤ R.locals := by omega
  unfold fX1_readClause at hf
  have hj55 : ∀ (x1 : Nat) (x3 : Int32) (mm : Mem) (H : Heap) (locs : List Loc) (ls : Array Slot), fX1_readClause_j55 (eS E) x1 x3 mm = some mm1 → wS E s mm H locs → lv_has ls 5 [(1, .ref x1), (3, .int x3)] → W p l e R s m args below meth c H locs 0 0 Q (F0 m 55 ls []) := by
    intro x1 x3 mm H locs ls hf hS hl
    unfold fX1_readClause_j55 at hf
    refine lv_aload_n hx hb dX1_readClause_55 rfl (lv_at hl 0 rfl) ?_
    refine lv_iconst (v := 3) hx hb dX1_readClause_56 (by decide) ?_
    refine lv_iload_n hx hb dX1_readClause_57 rfl (lv_at hl 1 rfl) ?_
    obtain ⟨u0, h0, hf⟩ := bs hf
    obtain ⟨_, hrc⟩ := isO_n h0
    obtain ⟨v1, m2, h1, hf⟩ := bs2 hf
    refine am_endi hS (am_runV (As := [.int 3, .int x3]) X (hml.trans hl.1.symm) hS (cX8_fail_ok (l := l) (E := E) h1) mv_X1_66 hrc rfl ⟨Nat.le_trans (by decide) hRa, Nat.le_trans (by decide) hRb⟩ ⟨Nat.zero_le _, Nat.zero_le _⟩ rfl rfl (Nat.le_of_ble_eq_true rfl) dX1_readClause_58) (fun H locs hS => ?_)
    refine lv_pop hx hb dX1_readClause_61 rfl ?_
    cases hf
    exact hret _ _ _ _ dX1_readClause_62 hS
  have hj138 : ∀ (x1 : Nat) (mm : Mem) (H : Heap) (locs : List Loc) (ls : Array Slot), fX1_readClause_j138 (eS E) x1 mm = some mm1 → wS E s mm H locs → lv_has ls 5 [(1, .ref x1)] → W p l e R s m args below meth c H locs 0 0 Q (F0 m 138 ls []) := by
    intro x1 mm H locs ls hf hS hl
    unfold fX1_readClause_j138 at hf
    refine lv_aload_n hx hb dX1_readClause_138 rfl (lv_at hl 0 rfl) ?_
    refine lv_bipush (v := 59) hx hb dX1_readClause_139 (by decide) ?_
    obtain ⟨u0, h0, hf⟩ := bs hf
    obtain ⟨_, hrc⟩ := isO_n h0
    obtain ⟨v3, m4, h1, hf⟩ := bs2 hf
    refine am_endi hS (am_runV (As := [.int 59]) X (hml.trans hl.1.symm) hS (cX8_wants_ok (l := l) (E := E) h1) mv_X1_78 hrc rfl ⟨Nat.le_trans (by decide) hRa, Nat.le_trans (by decide) hRb⟩ ⟨Nat.zero_le _, Nat.zero_le _⟩ rfl rfl (Nat.le_of_ble_eq_true rfl) dX1_readClause_141) (fun H locs hS => ?_)
    refine lv_pop hx hb dX1_readClause_144 rfl ?_
    cases hf
    exact hret _ _ _ _ dX1_readClause_145 hS
  have hj63 : ∀ (x0 : Nat) (x1 : Nat) (x4 : Int32) (mm : Mem) (H : Heap) (locs : List Loc) (ls : Array Slot), fX1_readClause_j63 (eS E) x0 x1 x4 mm = some mm1 → wS E s mm H locs → lv_has ls 5 [(0, .ref x0), (1, .ref x1), (4, .int x4)] → W p l e R s m args below meth c H locs 0 0 Q (F0 m 63 ls []) := by
    intro x0 x1 x4 mm H locs ls hf hS hl
    unfold fX1_readClause_j63 at hf
    refine lv_iload hx hb dX1_readClause_63 (lv_at hl 2 rfl) ?_
    refine lv_if_ne (tgt := 76) hx hb dX1_readClause_65 (by decide) (fun q5 => ?_) (fun q5 => ?_)
    · have hf := ifn hf q5
      refine lv_iload hx hb dX1_readClause_76 (lv_at hl 2 rfl) ?_
      refine lv_iconst (v := 1) hx hb dX1_readClause_78 (by decide) ?_
      refine lv_icmp_ne (tgt := 126) hx hb dX1_readClause_79 (by decide) (fun q6 => ?_) (fun q6 => ?_)
      · have hf := ifn hf q6
        refine lv_aload_n hx hb dX1_readClause_126 rfl (lv_at hl 0 rfl) ?_
        refine lv_aload_n hx hb dX1_readClause_127 rfl (lv_at hl 1 rfl) ?_
        refine lv_bipush (v := 10) hx hb dX1_readClause_128 (by decide) ?_
        refine lv_bipush (v := 99) hx hb dX1_readClause_130 (by decide) ?_
        obtain ⟨u0, h0, hf⟩ := bs hf
        obtain ⟨_, hrc⟩ := isO_n h0
        obtain ⟨v7, m8, h1, hf⟩ := bs2 hf
        refine am_endi hS (am_runV (As := [.int 10, .int 99]) X (hml.trans hl.1.symm) hS (cX8_number_ok (l := l) (E := E) h1) mv_X1_74 hrc rfl ⟨Nat.le_trans (by decide) hRa, Nat.le_trans (by decide) hRb⟩ ⟨Nat.zero_le _, Nat.zero_le _⟩ rfl rfl (Nat.le_of_ble_eq_true rfl) dX1_readClause_132) (fun H locs hS => ?_)
        obtain ⟨m9, h1, hf⟩ := bs hf
        refine am_pi X hS fp_X1_21 rfl h1 dX1_readClause_135 (fun H locs hS => ?_)
        exact hj138 x1 m9 H locs ls hf hS (lv_sub hl [1] rfl)
      · have hf := ifp hf q6
        refine lv_aload_n hx hb dX1_readClause_82 rfl (lv_at hl 0 rfl) ?_
        obtain ⟨a10, h1, hf⟩ := bs hf
        refine am_gr X hS fl_X1_15 rfl h1 dX1_readClause_83 ?_
        refine lv_aload_n hx hb dX1_readClause_86 rfl (lv_at hl 0 rfl) ?_
        obtain ⟨v11, h1, hf⟩ := bs hf
        refine am_gi X hS fl_X1_34 rfl h1 dX1_readClause_87 ?_
        refine lv_aload_n hx hb dX1_readClause_90 rfl (lv_at hl 1 rfl) ?_
        refine lv_iconst (v := 1) hx hb dX1_readClause_91 (by decide) ?_
        refine lv_bipush (v := 9) hx hb dX1_readClause_92 (by decide) ?_
        obtain ⟨u0, h0, hf⟩ := bs hf
        obtain ⟨_, hrc⟩ := isO_n h0
        obtain ⟨v12, m13, h1, hf⟩ := bs2 hf
        refine am_endi hS (am_runV (As := [.int 1, .int 9]) X (hml.trans hl.1.symm) hS (cX8_number_ok (l := l) (E := E) h1) mv_X1_74 hrc rfl ⟨Nat.le_trans (by decide) hRa, Nat.le_trans (by decide) hRb⟩ ⟨Nat.zero_le _, Nat.zero_le _⟩ rfl rfl (Nat.le_of_ble_eq_true rfl) dX1_readClause_94) (fun H locs hS => ?_)
        obtain ⟨m14, h1, hf⟩ := bs hf
        refine am_ast X hS h1 dX1_readClause_97 (fun H locs hS => ?_)
        refine lv_aload_n hx hb dX1_readClause_98 rfl (lv_at hl 0 rfl) ?_
        obtain ⟨a15, h1, hf⟩ := bs hf
        refine am_gr X hS fl_X1_18 rfl h1 dX1_readClause_99 ?_
        refine lv_aload_n hx hb dX1_readClause_102 rfl (lv_at hl 0 rfl) ?_
        obtain ⟨v16, h1, hf⟩ := bs hf
        refine am_gi X hS fl_X1_34 rfl h1 dX1_readClause_103 ?_
        refine lv_aload_n hx hb dX1_readClause_106 rfl (lv_at hl 1 rfl) ?_
        refine lv_iconst (v := 0) hx hb dX1_readClause_107 (by decide) ?_
        refine lv_iconst (v := 1) hx hb dX1_readClause_108 (by decide) ?_
        obtain ⟨u0, h0, hf⟩ := bs hf
        obtain ⟨_, hrc⟩ := isO_n h0
        obtain ⟨v17, m18, h1, hf⟩ := bs2 hf
        refine am_endi hS (am_runV (As := [.int 0, .int 1]) X (hml.trans hl.1.symm) hS (cX8_number_ok (l := l) (E := E) h1) mv_X1_74 hrc rfl ⟨Nat.le_trans (by decide) hRa, Nat.le_trans (by decide) hRb⟩ ⟨Nat.zero_le _, Nat.zero_le _⟩ rfl rfl (Nat.le_of_ble_eq_true rfl) dX1_readClause_109) (fun H locs hS => ?_)
        obtain ⟨m19, h1, hf⟩ := bs hf
        refine am_ast X hS h1 dX1_readClause_112 (fun H locs hS => ?_)
        refine lv_aload_n hx hb dX1_readClause_113 rfl (lv_at hl 0 rfl) ?_
        refine lv_dup hx hb dX1_readClause_114 rfl ?_
        obtain ⟨v20, h1, hf⟩ := bs hf
        refine am_gi X hS fl_X1_34 rfl h1 dX1_readClause_115 ?_
        refine lv_iconst (v := 1) hx hb dX1_readClause_118 (by decide) ?_
        refine lv_iadd hx hb dX1_readClause_119 ?_
        obtain ⟨m21, h1, hf⟩ := bs hf
        refine am_pi X hS fp_X1_34 rfl h1 dX1_readClause_120 (fun H locs hS => ?_)
        refine lv_goto (tgt := 138) hx hb dX1_readClause_123 (by decide) ?_
        exact hj138 x1 m21 H locs ls hf hS (lv_sub hl [1] rfl)
    · have hf := ifp hf q5
      refine lv_aload_n hx hb dX1_readClause_68 rfl (lv_at hl 0 rfl) ?_
      refine lv_aload_n hx hb dX1_readClause_69 rfl (lv_at hl 1 rfl) ?_
      obtain ⟨u0, h0, hf⟩ := bs hf
      obtain ⟨_, hrc⟩ := isO_n h0
      obtain ⟨m22, h1, hf⟩ := bs hf
      refine am_endv hS (am_runV (As := [.ref x1]) X (hml.trans hl.1.symm) hS (cX1_readFellow_ok (l := l) (E := E) h1) mv_X1_70 hrc rfl ⟨Nat.le_trans (by decide) hRa, Nat.le_trans (by decide) hRb⟩ ⟨Nat.zero_le _, Nat.zero_le _⟩ rfl rfl (Nat.le_of_ble_eq_true rfl) dX1_readClause_70) (fun H locs hS => ?_)
      refine lv_goto (tgt := 138) hx hb dX1_readClause_73 (by decide) ?_
      exact hj138 x1 m22 H locs ls hf hS (lv_sub hl [1] rfl)
  have hj40 : ∀ (x0 : Nat) (x1 : Nat) (x3 : Int32) (x4 : Int32) (mm : Mem) (H : Heap) (locs : List Loc) (ls : Array Slot), fX1_readClause_j40 (eS E) x0 x1 x3 x4 mm = some mm1 → wS E s mm H locs → lv_has ls 5 [(0, .ref x0), (1, .ref x1), (3, .int x3), (4, .int x4)] → W p l e R s m args below meth c H locs 0 0 Q (F0 m 40 ls []) := by
    intro x0 x1 x3 x4 mm H locs ls hf hS hl
    unfold fX1_readClause_j40 at hf
    refine lv_iload hx hb dX1_readClause_40 (lv_at hl 3 rfl) ?_
    refine lv_iconst (v := 1) hx hb dX1_readClause_42 (by decide) ?_
    refine lv_icmp_ne (tgt := 63) hx hb dX1_readClause_43 (by decide) (fun q23 => ?_) (fun q23 => ?_)
    · have hf := ifn hf q23
      exact hj63 x0 x1 x4 mm H locs ls hf hS (lv_sub hl [0, 1, 3] rfl)
    · have hf := ifp hf q23
      refine lv_aload_n hx hb dX1_readClause_46 rfl (lv_at hl 0 rfl) ?_
      obtain ⟨v24, h1, hf⟩ := bs hf
      refine am_gi X hS fl_X1_34 rfl h1 dX1_readClause_47 ?_
      refine lv_bipush (v := 8) hx hb dX1_readClause_50 (by decide) ?_
      refine lv_icmp_lt (tgt := 63) hx hb dX1_readClause_52 (by decide) (fun q25 => ?_) (fun q25 => ?_)
      · have hf := ifp hf q25
        exact hj63 x0 x1 x4 mm H locs ls hf hS (lv_sub hl [0, 1, 3] rfl)
      · have hf := ifn hf q25
        exact hj55 x1 x3 mm H locs ls hf hS (lv_sub hl [1, 2] rfl)
  intro H locs ls hS hl
  refine lv_aload_n hx hb dX1_readClause_0 rfl (lv_at hl 1 rfl) ?_
  obtain ⟨u0, h0, hf⟩ := bs hf
  obtain ⟨_, hrc⟩ := isO_n h0
  obtain ⟨v26, m27, h1, hf⟩ := bs2 hf
  refine am_endi hS (am_runV (As := []) X (hml.trans hl.1.symm) hS (cX8_next_ok (l := l) (E := E) h1) mv_X1_56 hrc rfl ⟨Nat.le_trans (by decide) hRa, Nat.le_trans (by decide) hRb⟩ ⟨Nat.zero_le _, Nat.zero_le _⟩ rfl rfl (Nat.le_of_ble_eq_true rfl) dX1_readClause_1) (fun H locs hS => ?_)
  refine lv_topi (fun x3_28 e1 => ?_)
  have hf := lt1_n e1 hf
  refine lv_istore_n (lv' := [(3, .int x3_28), (0, .ref x0), (1, .ref x1), (2, .int x2)]) hx hb dX1_readClause_4 rfl hl (by decide) rfl (fun ls hl => ?_)
  refine lv_aload_n hx hb dX1_readClause_5 rfl (lv_at hl 2 rfl) ?_
  refine am_ldcS (i := 1) X (by decide) rfl rfl dX1_readClause_6 ?_
  obtain ⟨u0, h0, hf⟩ := bs hf
  obtain ⟨_, hrc⟩ := isO_n h0
  obtain ⟨v29, m30, h1, hf⟩ := bs2 hf
  refine am_endi hS (am_runV (As := [.ref (eK E 1)]) X (hml.trans hl.1.symm) hS (cX8_word_ok (l := l) (E := E) h1) mv_X1_62 hrc rfl ⟨Nat.le_trans (by decide) hRa, Nat.le_trans (by decide) hRb⟩ ⟨Nat.zero_le _, Nat.zero_le _⟩ rfl rfl (Nat.le_of_ble_eq_true rfl) dX1_readClause_8) (fun H locs hS => ?_)
  refine lv_topi (fun x4_31 e1 => ?_)
  have hf := lt1_n e1 hf
  refine lv_istore (lv' := [(4, .int x4_31), (3, .int x3_28), (0, .ref x0), (1, .ref x1), (2, .int x2)]) hx hb dX1_readClause_11 hl (by decide) rfl (fun ls hl => ?_)
  refine lv_iload hx hb dX1_readClause_13 (lv_at hl 0 rfl) ?_
  refine lv_iconst (v := (-1)) hx hb dX1_readClause_15 (by decide) ?_
  refine lv_icmp_ne (tgt := 20) hx hb dX1_readClause_16 (by decide) (fun q32 => ?_) (fun q32 => ?_)
  · have hf := ifn hf q32
    refine lv_iload_n hx hb dX1_readClause_20 rfl (lv_at hl 4 rfl) ?_
    refine lv_bipush (v := 60) hx hb dX1_readClause_21 (by decide) ?_
    refine lv_icmp_ge (tgt := 55) hx hb dX1_readClause_23 (by decide) (fun q33 => ?_) (fun q33 => ?_)
    · have hf := ifp hf q33
      exact hj55 x1 x3_28 m30 H locs ls hf hS (lv_sub hl [3, 1] rfl)
    · have hf := ifn hf q33
      refine lv_iload hx hb dX1_readClause_26 (lv_at hl 0 rfl) ?_
      refine lv_if_ne (tgt := 40) hx hb dX1_readClause_28 (by decide) (fun q34 => ?_) (fun q34 => ?_)
      · have hf := ifn hf q34
        exact hj40 x0 x1 x3_28 x4_31 m30 H locs ls hf hS (lv_sub hl [2, 3, 1, 0] rfl)
      · have hf := ifp hf q34
        refine lv_aload_n hx hb dX1_readClause_31 rfl (lv_at hl 2 rfl) ?_
        obtain ⟨v35, h1, hf⟩ := bs hf
        refine am_gi X hS fl_X1_31 rfl h1 dX1_readClause_32 ?_
        refine lv_bipush (v := 6) hx hb dX1_readClause_35 (by decide) ?_
        refine lv_icmp_ge (tgt := 55) hx hb dX1_readClause_37 (by decide) (fun q36 => ?_) (fun q36 => ?_)
        · have hf := ifp hf q36
          exact hj55 x1 x3_28 m30 H locs ls hf hS (lv_sub hl [3, 1] rfl)
        · have hf := ifn hf q36
          exact hj40 x0 x1 x3_28 x4_31 m30 H locs ls hf hS (lv_sub hl [2, 3, 1, 0] rfl)
  · have hf := ifp hf q32
    cases hf
    exact hret _ _ _ _ dX1_readClause_19 hS
set_option maxRecDepth 100000 in
theorem cX1_readClause_ok {l : Launch} {E : Ev} {x0 : Nat} {x1 : Nat} {x2 : Int32} {mm : Mem} {mm1 : Mem} (hf : fX1_readClause (eS E) x0 x1 x2 mm = some mm1) : CtV l yX1_readClause cX1_readClause 5 none (6) (134) E [.ref x0, .ref x1, .int x2] mm mm1 := by
  refine Met.ofW (cc := cX1_readClause) (maxL := 5) (ret := none) (by decide) rfl ?_
  intro p e s m args below meth c s₁ B hml hv
  obtain ⟨rfl, X, hS, hr, hlocks⟩ := am_in B hv
  refine am_entry (Nat.le_of_ble_eq_true rfl) (fun ls hl => ?_)
  exact wX1_readClause X hml ⟨Nat.le_refl _, Nat.le_refl _⟩ hf (fun pc H locs ls hd hS => am_rv X hS hr hd hlocks) _ _ ls hS hl
set_option maxHeartbeats 4000000 in
set_option maxRecDepth 100000 in
theorem wX1_read {p : Program} {l : Launch} {e : Env} {R : Room} {s : State} {m : MethodId} {args : Array Value} {below : List Frame} {meth : Method} {c : Code} {Q : State → Prop} {E : Ev} (X : Cx p s m args c cX1_read RX1 E) (hml : c.maxLocals = 3) (hR : 7 ≤ R.frames ∧ 158 ≤ R.locals) {x0 : Nat} {x1 : Nat} {mm : Mem} {r : Int32} {mm1 : Mem} (hf : fX1_read (eS E) x0 x1 mm = some (r, mm1)) (hret : ∀ (pc : Nat) (H : Heap) (locs : List Loc) (ls : Array Slot), narrow .boolean (.int r) = .int r → decode cX1_read pc = .ok (.ireturn, 1) → wS E s mm1 H locs → W p l e R s m args below meth c H locs 0 0 Q (F0 m pc ls [.int r])) : ∀ (H : Heap) (locs : List Loc) (ls : Array Slot), wS E s mm H locs → lv_has ls 3 [(0, .ref x0), (1, .ref x1)] → W p l e R s m args below meth c H locs 0 0 Q (F0 m 0 ls []) := by
  have hx := X.1
  have hb := X.2.1
  have hR1 := hR.1
  have hR2 := hR.2
  have hRa : 7 ≤ R.frames := by omega
  have hRb : 158 ≤ R.locals := by omega
  unfold fX1_read at hf
  have hj60 : ∀ (mm : Mem) (H : Heap) (locs : List Loc) (ls : Array Slot), fX1_read_j60 (eS E) mm = some (r, mm1) → wS E s mm H locs → lv_has ls 3 [] → W p l e R s m args below meth c H locs 0 0 Q (F0 m 60 ls []) := by
    intro mm H locs ls hf hS hl
    unfold fX1_read_j60 at hf
    refine lv_iconst (v := 1) hx hb dX1_read_60 (by decide) ?_
    cases hf
    exact hret _ _ _ _ rfl dX1_read_61 hS
  have hj52 : ∀ (mm : Mem) (H : Heap) (locs : List Loc) (ls : Array Slot), fX1_read_j52 (eS E) mm = some (r, mm1) → wS E s mm H locs → lv_has ls 3 [] → W p l e R s m args below meth c H locs 0 0 Q (F0 m 52 ls []) := by
    intro mm H locs ls hf hS hl
    unfold fX1_read_j52 at hf
    refine lv_iconst (v := 0) hx hb dX1_read_52 (by decide) ?_
    cases hf
    exact hret _ _ _ _ rfl dX1_read_53 hS
  intro H locs ls hS hl
  refine lv_aload_n hx hb dX1_read_0 rfl (lv_at hl 0 rfl) ?_
  refine lv_iconst (v := 0) hx hb dX1_read_1 (by decide) ?_
  obtain ⟨m1, h1, hf⟩ := bs hf
  refine am_pi X hS fp_X1_31 rfl h1 dX1_read_2 (fun H locs hS => ?_)
  refine lv_aload_n hx hb dX1_read_5 rfl (lv_at hl 0 rfl) ?_
  refine lv_iconst (v := 0) hx hb dX1_read_6 (by decide) ?_
  obtain ⟨m2, h1, hf⟩ := bs hf
  refine am_pi X hS fp_X1_34 rfl h1 dX1_read_7 (fun H locs hS => ?_)
  refine lv_aload_n hx hb dX1_read_10 rfl (lv_at hl 0 rfl) ?_
  refine lv_bipush (v := 60) hx hb dX1_read_11 (by decide) ?_
  obtain ⟨m3, h1, hf⟩ := bs hf
  refine am_pi X hS fp_X1_21 rfl h1 dX1_read_13 (fun H locs hS => ?_)
  refine lv_aload_n hx hb dX1_read_16 rfl (lv_at hl 0 rfl) ?_
  obtain ⟨a4, h1, hf⟩ := bs hf
  refine am_gr X hS fl_X1_9 rfl h1 dX1_read_17 ?_
  refine lv_iconst (v := 0) hx hb dX1_read_20 (by decide) ?_
  obtain ⟨m5, h1, hf⟩ := bs hf
  refine am_endv hS (am_runS (As := [.ref a4, .int 0]) X (hml.trans hl.1.symm) hS (cJ7_fill_53178_ok (l := l) (E := E) h1) ms_X1_37 ⟨Nat.le_trans (by decide) hRa, Nat.le_trans (by decide) hRb⟩ ⟨Nat.zero_le _, Nat.zero_le _⟩ rfl rfl (Nat.le_of_ble_eq_true rfl) dX1_read_21) (fun H locs hS => ?_)
  refine lv_iconst (v := 0) hx hb dX1_read_24 (by decide) ?_
  refine lv_topi (fun x2_6 e1 => ?_)
  have hf := lt1_n e1 hf
  refine lv_istore_n (lv' := [(2, .int x2_6), (0, .ref x0), (1, .ref x1)]) hx hb dX1_read_25 rfl hl (by decide) rfl (fun ls hl => ?_)
  obtain ⟨ex26, hl26, hk26⟩ := bs hf
  refine loop_W (P := fun st => ∀ (H : Heap) (locs : List Loc) (ls : Array Slot), wS E s st.2 H locs → lv_has ls 3 [(0, .ref x0), (1, .ref x1), (2, .int st.1)] → W p l e R s m args below meth c H locs 0 0 Q (F0 m 26 ls [])) (ex := ex26) ?_ FU _ hl26 H locs ls hS (lv_sub hl [1, 2, 0] rfl)
  intro st y26 hf hyL26 hyR26 H locs ls hS hl
  obtain ⟨x2, mm⟩ := st
  have hf : fX1_read_b26 (eS E) x0 x1 x2 mm = some y26 := hf
  have hS : wS E s mm H locs := hS
  have hl : lv_has ls 3 [(0, .ref x0), (1, .ref x1), (2, .int x2)] := hl
  unfold fX1_read_b26 at hf
  refine lv_iload_n hx hb dX1_read_26 rfl (lv_at hl 2 rfl) ?_
  refine lv_bipush (v := 60) hx hb dX1_read_27 (by decide) ?_
  refine lv_icmp_gt (tgt := 60) hx hb dX1_read_29 (by decide) (fun q7 => ?_) (fun q7 => ?_)
  · have hf := ifp hf q7
    obtain rfl : Sum.inr (mm) = ex26 := hyR26 _ (Option.some.inj hf).symm
    exact hj60 mm H locs ls hk26 hS (lv_sub hl [] rfl)
  · have hf := ifn hf q7
    refine lv_aload_n hx hb dX1_read_32 rfl (lv_at hl 1 rfl) ?_
    obtain ⟨u0, h0, hf⟩ := bs hf
    obtain ⟨_, hrc⟩ := isO_n h0
    obtain ⟨v8, m9, h1, hf⟩ := bs2 hf
    refine am_endi hS (am_runV (As := []) X (hml.trans hl.1.symm) hS (cX8_ended_ok (l := l) (E := E) h1) mv_X1_43 hrc rfl ⟨Nat.le_trans (by decide) hRa, Nat.le_trans (by decide) hRb⟩ ⟨Nat.zero_le _, Nat.zero_le _⟩ rfl rfl (Nat.le_of_ble_eq_true rfl) dX1_read_33) (fun H locs hS => ?_)
    refine lv_if_ne (tgt := 60) hx hb dX1_read_36 (by decide) (fun q10 => ?_) (fun q10 => ?_)
    · have hf := ifn hf q10
      obtain rfl : Sum.inr (m9) = ex26 := hyR26 _ (Option.some.inj hf).symm
      exact hj60 m9 H locs ls hk26 hS (lv_sub hl [] rfl)
    · have hf := ifp hf q10
      refine lv_aload_n hx hb dX1_read_39 rfl (lv_at hl 0 rfl) ?_
      refine lv_aload_n hx hb dX1_read_40 rfl (lv_at hl 1 rfl) ?_
      refine lv_iload_n hx hb dX1_read_41 rfl (lv_at hl 2 rfl) ?_
      obtain ⟨u0, h0, hf⟩ := bs hf
      obtain ⟨_, hrc⟩ := isO_n h0
      obtain ⟨m11, h1, hf⟩ := bs hf
      refine am_endv hS (am_runV (As := [.ref x1, .int x2]) X (hml.trans hl.1.symm) hS (cX1_readClause_ok (l := l) (E := E) h1) mv_X1_49 hrc rfl ⟨Nat.le_trans (by decide) hRa, Nat.le_trans (by decide) hRb⟩ ⟨Nat.zero_le _, Nat.zero_le _⟩ rfl rfl (Nat.le_of_ble_eq_true rfl) dX1_read_42) (fun H locs hS => ?_)
      refine lv_aload_n hx hb dX1_read_45 rfl (lv_at hl 1 rfl) ?_
      obtain ⟨u0, h0, hf⟩ := bs hf
      obtain ⟨_, hrc⟩ := isO_n h0
      obtain ⟨v12, h1, hf⟩ := bs hf
      refine am_endi hS (am_runV (As := []) X (hml.trans hl.1.symm) hS (cX8_isWhole_ok (l := l) (E := E) h1) mv_X1_53 hrc rfl ⟨Nat.le_trans (by decide) hRa, Nat.le_trans (by decide) hRb⟩ ⟨Nat.zero_le _, Nat.zero_le _⟩ rfl rfl (Nat.le_of_ble_eq_true rfl) dX1_read_46) (fun H locs hS => ?_)
      refine lv_if_ne (tgt := 54) hx hb dX1_read_49 (by decide) (fun q13 => ?_) (fun q13 => ?_)
      · have hf := ifn hf q13
        obtain ⟨x2_14, e1⟩ : ∃ z : Int32, z = x2 + 1 := ⟨_, rfl⟩
        have hf := lt1_n e1 hf
        refine lv_iinc (v := x2_14) (lv' := [(2, .int x2_14), (0, .ref x0), (1, .ref x1)]) hx hb dX1_read_54 hl (k := 2) rfl (by rw [e1]; rfl) (by decide) rfl (fun ls hl => ?_)
        refine lv_goto (tgt := 26) hx hb dX1_read_57 (by decide) ?_
        exact hyL26 _ (Option.some.inj hf).symm H locs ls hS (lv_sub hl [1, 2, 0] rfl)
      · have hf := ifp hf q13
        obtain rfl : Sum.inl m11 = ex26 := hyR26 _ (Option.some.inj hf).symm
        exact hj52 m11 H locs ls hk26 hS (lv_sub hl [] rfl)
set_option maxRecDepth 100000 in
theorem cX1_read_ok {l : Launch} {E : Ev} {x0 : Nat} {x1 : Nat} {mm : Mem} {r : Int32} {mm1 : Mem} (hf : fX1_read (eS E) x0 x1 mm = some (r, mm1)) : CtI l yX1_read cX1_read 3 (some .boolean) (7) (158) E [.ref x0, .ref x1] mm r mm1 := by
  refine Met.ofW (cc := cX1_read) (maxL := 3) (ret := (some .boolean)) (by decide) rfl ?_
  intro p e s m args below meth c s₁ B hml hv
  obtain ⟨rfl, X, hS, hr, hlocks⟩ := am_in B hv
  refine am_entry (Nat.le_of_ble_eq_true rfl) (fun ls hl => ?_)
  exact wX1_read X hml ⟨Nat.le_refl _, Nat.le_refl _⟩ hf (fun pc H locs ls hn hd hS => am_ri X hS hr hn hd hlocks) _ _ ls hS hl
set_option maxHeartbeats 4000000 in
set_option maxRecDepth 100000 in
theorem wX4_becomePlain {p : Program} {l : Launch} {e : Env} {R : Room} {s : State} {m : MethodId} {args : Array Value} {below : List Frame} {meth : Method} {c : Code} {Q : State → Prop} {E : Ev} (X : Cx p s m args c cX4_becomePlain RX4 E) (hml : c.maxLocals = 1) (hR : 0 ≤ R.frames ∧ 0 ≤ R.locals) {x0 : Nat} {mm : Mem} {mm1 : Mem} (hf : fX4_becomePlain (eS E) x0 mm = some mm1) (hret : ∀ (pc : Nat) (H : Heap) (locs : List Loc) (ls : Array Slot), decode cX4_becomePlain pc = .ok (.return_, 1) → wS E s mm1 H locs → W p l e R s m args below meth c H locs 0 0 Q (F0 m pc ls [])) : ∀ (H : Heap) (locs : List Loc) (ls : Array Slot), wS E s mm H locs → lv_has ls 1 [(0, .ref x0)] → W p l e R s m args below meth c H locs 0 0 Q (F0 m 0 ls []) := by
  have hx := X.1
  have hb := X.2.1
  have hR1 := hR.1
  have hR2 := hR.2
  have hRa : 0 ≤ R.frames := by omega
  have hRb : 0 ≤ R.locals := by omega
  unfold fX4_becomePlain at hf
  intro H locs ls hS hl
  refine lv_aload_n hx hb dX4_becomePlain_0 rfl (lv_at hl 0 rfl) ?_
  obtain ⟨a1, h1, hf⟩ := bs hf
  refine am_gr X hS fl_X4_9 rfl h1 dX4_becomePlain_1 ?_
  refine lv_iconst (v := 0) hx hb dX4_becomePlain_4 (by decide) ?_
  refine lv_sipush (v := 1000) hx hb dX4_becomePlain_5 (by decide) ?_
  obtain ⟨m2, h1, hf⟩ := bs hf
  refine am_ast X hS h1 dX4_becomePlain_8 (fun H locs hS => ?_)
  refine lv_aload_n hx hb dX4_becomePlain_9 rfl (lv_at hl 0 rfl) ?_
  obtain ⟨a3, h1, hf⟩ := bs hf
  refine am_gr X hS fl_X4_9 rfl h1 dX4_becomePlain_10 ?_
  refine lv_iconst (v := 1) hx hb dX4_becomePlain_13 (by decide) ?_
  refine lv_iconst (v := 1) hx hb dX4_becomePlain_14 (by decide) ?_
  obtain ⟨m4, h1, hf⟩ := bs hf
  refine am_ast X hS h1 dX4_becomePlain_15 (fun H locs hS => ?_)
  refine lv_aload_n hx hb dX4_becomePlain_16 rfl (lv_at hl 0 rfl) ?_
  obtain ⟨a5, h1, hf⟩ := bs hf
  refine am_gr X hS fl_X4_9 rfl h1 dX4_becomePlain_17 ?_
  refine lv_iconst (v := 2) hx hb dX4_becomePlain_20 (by decide) ?_
  refine lv_sipush (v := 1100) hx hb dX4_becomePlain_21 (by decide) ?_
  obtain ⟨m6, h1, hf⟩ := bs hf
  refine am_ast X hS h1 dX4_becomePlain_24 (fun H locs hS => ?_)
  refine lv_aload_n hx hb dX4_becomePlain_25 rfl (lv_at hl 0 rfl) ?_
  obtain ⟨a7, h1, hf⟩ := bs hf
  refine am_gr X hS fl_X4_9 rfl h1 dX4_becomePlain_26 ?_
  refine lv_iconst (v := 3) hx hb dX4_becomePlain_29 (by decide) ?_
  refine lv_sipush (v := 1002) hx hb dX4_becomePlain_30 (by decide) ?_
  obtain ⟨m8, h1, hf⟩ := bs hf
  refine am_ast X hS h1 dX4_becomePlain_33 (fun H locs hS => ?_)
  refine lv_aload_n hx hb dX4_becomePlain_34 rfl (lv_at hl 0 rfl) ?_
  obtain ⟨a9, h1, hf⟩ := bs hf
  refine am_gr X hS fl_X4_9 rfl h1 dX4_becomePlain_35 ?_
  refine lv_iconst (v := 4) hx hb dX4_becomePlain_38 (by decide) ?_
  refine lv_sipush (v := 1102) hx hb dX4_becomePlain_39 (by decide) ?_
  obtain ⟨m10, h1, hf⟩ := bs hf
  refine am_ast X hS h1 dX4_becomePlain_42 (fun H locs hS => ?_)
  refine lv_aload_n hx hb dX4_becomePlain_43 rfl (lv_at hl 0 rfl) ?_
  refine lv_iconst (v := 5) hx hb dX4_becomePlain_44 (by decide) ?_
  obtain ⟨m11, h1, hf⟩ := bs hf
  refine am_pi X hS fp_X4_21 rfl h1 dX4_becomePlain_45 (fun H locs hS => ?_)
  cases hf
  exact hret _ _ _ _ dX4_becomePlain_48 hS
set_option maxRecDepth 100000 in
theorem cX4_becomePlain_ok {l : Launch} {E : Ev} {x0 : Nat} {mm : Mem} {mm1 : Mem} (hf : fX4_becomePlain (eS E) x0 mm = some mm1) : CtV l yX4_becomePlain cX4_becomePlain 1 none (0) (0) E [.ref x0] mm mm1 := by
  refine Met.ofW (cc := cX4_becomePlain) (maxL := 1) (ret := none) (by decide) rfl ?_
  intro p e s m args below meth c s₁ B hml hv
  obtain ⟨rfl, X, hS, hr, hlocks⟩ := am_in B hv
  refine am_entry (Nat.le_of_ble_eq_true rfl) (fun ls hl => ?_)
  exact wX4_becomePlain X hml ⟨Nat.le_refl _, Nat.le_refl _⟩ hf (fun pc H locs ls hd hS => am_rv X hS hr hd hlocks) _ _ ls hS hl
set_option maxHeartbeats 4000000 in
set_option maxRecDepth 100000 in
theorem wX4_copyFrom {p : Program} {l : Launch} {e : Env} {R : Room} {s : State} {m : MethodId} {args : Array Value} {below : List Frame} {meth : Method} {c : Code} {Q : State → Prop} {E : Ev} (X : Cx p s m args c cX4_copyFrom RX4 E) (hml : c.maxLocals = 2) (hR : 1 ≤ R.frames ∧ 60 ≤ R.locals) {x0 : Nat} {x1 : Nat} {mm : Mem} {mm1 : Mem} (hf : fX4_copyFrom (eS E) x0 x1 mm = some mm1) (hret : ∀ (pc : Nat) (H : Heap) (locs : List Loc) (ls : Array Slot), decode cX4_copyFrom pc = .ok (.return_, 1) → wS E s mm1 H locs → W p l e R s m args below meth c H locs 0 0 Q (F0 m pc ls [])) : ∀ (H : Heap) (locs : List Loc) (ls : Array Slot), wS E s mm H locs → lv_has ls 2 [(0, .ref x0), (1, .ref x1)] → W p l e R s m args below meth c H locs 0 0 Q (F0 m 0 ls []) := by
  have hx := X.1
  have hb := X.2.1
  have hR1 := hR.1
  have hR2 := hR.2
  have hRa : 1 ≤ R.frames := by omega
  have hRb : 60 ≤ R.locals := by omega
  unfold fX4_copyFrom at hf
  intro H locs ls hS hl
  refine lv_aload_n hx hb dX4_copyFrom_0 rfl (lv_at hl 1 rfl) ?_
  obtain ⟨a1, h1, hf⟩ := bs hf
  refine am_gr X hS fl_X4_9 rfl h1 dX4_copyFrom_1 ?_
  refine lv_iconst (v := 0) hx hb dX4_copyFrom_4 (by decide) ?_
  refine lv_aload_n hx hb dX4_copyFrom_5 rfl (lv_at hl 0 rfl) ?_
  obtain ⟨a2, h1, hf⟩ := bs hf
  refine am_gr X hS fl_X4_9 rfl h1 dX4_copyFrom_6 ?_
  refine lv_iconst (v := 0) hx hb dX4_copyFrom_9 (by decide) ?_
  refine lv_aload_n hx hb dX4_copyFrom_10 rfl (lv_at hl 0 rfl) ?_
  obtain ⟨a3, h1, hf⟩ := bs hf
  refine am_gr X hS fl_X4_9 rfl h1 dX4_copyFrom_11 ?_
  obtain ⟨v4, h1, hf⟩ := bs hf
  refine am_len X hS h1 dX4_copyFrom_14 ?_
  obtain ⟨m5, h1, hf⟩ := bs hf
  refine am_cpy X (hml.trans hl.1.symm) hS h1 (inBi 804 (by decide +kernel)) (inBi 521 (by decide +kernel)) (inBi 520 (by decide +kernel)) (inBi 118 (by decide +kernel)) (Nat.le_trans (by decide) hRa) (Nat.le_trans (by decide) hRb) dX4_copyFrom_15 (fun H locs hS => ?_)
  refine lv_aload_n hx hb dX4_copyFrom_18 rfl (lv_at hl 0 rfl) ?_
  refine lv_aload_n hx hb dX4_copyFrom_19 rfl (lv_at hl 1 rfl) ?_
  obtain ⟨v6, h1, hf⟩ := bs hf
  refine am_gi X hS fl_X4_21 rfl h1 dX4_copyFrom_20 ?_
  obtain ⟨m7, h1, hf⟩ := bs hf
  refine am_pi X hS fp_X4_21 rfl h1 dX4_copyFrom_23 (fun H locs hS => ?_)
  cases hf
  exact hret _ _ _ _ dX4_copyFrom_26 hS
set_option maxRecDepth 100000 in
theorem cX4_copyFrom_ok {l : Launch} {E : Ev} {x0 : Nat} {x1 : Nat} {mm : Mem} {mm1 : Mem} (hf : fX4_copyFrom (eS E) x0 x1 mm = some mm1) : CtV l yX4_copyFrom cX4_copyFrom 2 none (1) (60) E [.ref x0, .ref x1] mm mm1 := by
  refine Met.ofW (cc := cX4_copyFrom) (maxL := 2) (ret := none) (by decide) rfl ?_
  intro p e s m args below meth c s₁ B hml hv
  obtain ⟨rfl, X, hS, hr, hlocks⟩ := am_in B hv
  refine am_entry (Nat.le_of_ble_eq_true rfl) (fun ls hl => ?_)
  exact wX4_copyFrom X hml ⟨Nat.le_refl _, Nat.le_refl _⟩ hf (fun pc H locs ls hd hS => am_rv X hS hr hd hlocks) _ _ ls hS hl
set_option maxHeartbeats 4000000 in
set_option maxRecDepth 100000 in
theorem wX8_seesDigit {p : Program} {l : Launch} {e : Env} {R : Room} {s : State} {m : MethodId} {args : Array Value} {below : List Frame} {meth : Method} {c : Code} {Q : State → Prop} {E : Ev} (X : Cx p s m args c cX8_seesDigit RX8 E) (hml : c.maxLocals = 1) (hR : 1 ≤ R.frames ∧ 20 ≤ R.locals) {x0 : Nat} {mm : Mem} {r : Int32} {mm1 : Mem} (hf : fX8_seesDigit (eS E) x0 mm = some (r, mm1)) (hret : ∀ (pc : Nat) (H : Heap) (locs : List Loc) (ls : Array Slot), narrow .boolean (.int r) = .int r → decode cX8_seesDigit pc = .ok (.ireturn, 1) → wS E s mm1 H locs → W p l e R s m args below meth c H locs 0 0 Q (F0 m pc ls [.int r])) : ∀ (H : Heap) (locs : List Loc) (ls : Array Slot), wS E s mm H locs → lv_has ls 1 [(0, .ref x0)] → W p l e R s m args below meth c H locs 0 0 Q (F0 m 0 ls []) := by
  have hx := X.1
  have hb := X.2.1
  have hR1 := hR.1
  have hR2 := hR.2
  have hRa : 1 ≤ R.frames := by omega
  have hRb : 20 ≤ R.locals := by omega
  unfold fX8_seesDigit at hf
  have hj31 : ∀ (s0 : Int32) (mm : Mem) (H : Heap) (locs : List Loc) (ls : Array Slot), fX8_seesDigit_j31 (eS E) s0 mm = some (r, mm1) → wS E s mm H locs → lv_has ls 1 [] → W p l e R s m args below meth c H locs 0 0 Q (F0 m 31 ls [.int s0]) := by
    intro s0 mm H locs ls hf hS hl
    unfold fX8_seesDigit_j31 at hf
    obtain ⟨v1, h1, hf⟩ := bs hf
    obtain ⟨rfl, h2⟩ := ckZ_n h1
    cases hf
    exact hret _ _ _ _ h2 dX8_seesDigit_31 hS
  have hj30 : ∀ (mm : Mem) (H : Heap) (locs : List Loc) (ls : Array Slot), fX8_seesDigit_j30 (eS E) mm = some (r, mm1) → wS E s mm H locs → lv_has ls 1 [] → W p l e R s m args below meth c H locs 0 0 Q (F0 m 30 ls []) := by
    intro mm H locs ls hf hS hl
    unfold fX8_seesDigit_j30 at hf
    refine lv_iconst (v := 0) hx hb dX8_seesDigit_30 (by decide) ?_
    exact hj31 0 mm H locs ls hf hS hl
  intro H locs ls hS hl
  refine lv_aload_n hx hb dX8_seesDigit_0 rfl (lv_at hl 0 rfl) ?_
  obtain ⟨u0, h0, hf⟩ := bs hf
  obtain ⟨_, hrc⟩ := isO_n h0
  obtain ⟨v2, m3, h1, hf⟩ := bs2 hf
  refine am_endi hS (am_runV (As := []) X (hml.trans hl.1.symm) hS (cX8_next_ok (l := l) (E := E) h1) mv_X8_31 hrc rfl ⟨Nat.le_trans (by decide) hRa, Nat.le_trans (by decide) hRb⟩ ⟨Nat.zero_le _, Nat.zero_le _⟩ rfl rfl (Nat.le_of_ble_eq_true rfl) dX8_seesDigit_1) (fun H locs hS => ?_)
  refine lv_aload_n hx hb dX8_seesDigit_4 rfl (lv_at hl 0 rfl) ?_
  obtain ⟨v4, h1, hf⟩ := bs hf
  refine am_gi X hS fl_X8_22 rfl h1 dX8_seesDigit_5 ?_
  refine lv_icmp_ge (tgt := 30) hx hb dX8_seesDigit_8 (by decide) (fun q5 => ?_) (fun q5 => ?_)
  · have hf := ifp hf q5
    exact hj30 m3 H locs ls hf hS (lv_sub hl [] rfl)
  · have hf := ifn hf q5
    refine lv_aload_n hx hb dX8_seesDigit_11 rfl (lv_at hl 0 rfl) ?_
    obtain ⟨a6, h1, hf⟩ := bs hf
    refine am_gr X hS fl_X8_9 rfl h1 dX8_seesDigit_12 ?_
    refine lv_aload_n hx hb dX8_seesDigit_15 rfl (lv_at hl 0 rfl) ?_
    obtain ⟨v7, h1, hf⟩ := bs hf
    refine am_gi X hS fl_X8_25 rfl h1 dX8_seesDigit_16 ?_
    obtain ⟨v8, h1, hf⟩ := bs hf
    refine am_ald X hS h1 dX8_seesDigit_19 ?_
    obtain ⟨v9, h1, hf⟩ := bs hf
    refine am_endi hS (am_runS (As := [.int v8]) X (hml.trans hl.1.symm) hS (cX8_isDigit_ok (l := l) (E := E) h1) ms_X8_35 ⟨Nat.le_trans (by decide) hRa, Nat.le_trans (by decide) hRb⟩ ⟨Nat.zero_le _, Nat.zero_le _⟩ rfl rfl (Nat.le_of_ble_eq_true rfl) dX8_seesDigit_20) (fun H locs hS => ?_)
    refine lv_if_eq (tgt := 30) hx hb dX8_seesDigit_23 (by decide) (fun q10 => ?_) (fun q10 => ?_)
    · have hf := ifp hf q10
      exact hj30 m3 H locs ls hf hS (lv_sub hl [] rfl)
    · have hf := ifn hf q10
      refine lv_iconst (v := 1) hx hb dX8_seesDigit_26 (by decide) ?_
      refine lv_goto (tgt := 31) hx hb dX8_seesDigit_27 (by decide) ?_
      exact hj31 1 m3 H locs ls hf hS (lv_sub hl [] rfl)
set_option maxRecDepth 100000 in
theorem cX8_seesDigit_ok {l : Launch} {E : Ev} {x0 : Nat} {mm : Mem} {r : Int32} {mm1 : Mem} (hf : fX8_seesDigit (eS E) x0 mm = some (r, mm1)) : CtI l yX8_seesDigit cX8_seesDigit 1 (some .boolean) (1) (20) E [.ref x0] mm r mm1 := by
  refine Met.ofW (cc := cX8_seesDigit) (maxL := 1) (ret := (some .boolean)) (by decide) rfl ?_
  intro p e s m args below meth c s₁ B hml hv
  obtain ⟨rfl, X, hS, hr, hlocks⟩ := am_in B hv
  refine am_entry (Nat.le_of_ble_eq_true rfl) (fun ls hl => ?_)
  exact wX8_seesDigit X hml ⟨Nat.le_refl _, Nat.le_refl _⟩ hf (fun pc H locs ls hn hd hS => am_ri X hS hr hn hd hlocks) _ _ ls hS hl
set_option maxHeartbeats 4000000 in
set_option maxRecDepth 100000 in
theorem wX4_lay {p : Program} {l : Launch} {e : Env} {R : Room} {s : State} {m : MethodId} {args : Array Value} {below : List Frame} {meth : Method} {c : Code} {Q : State → Prop} {E : Ev} (X : Cx p s m args c cX4_lay RX4 E) (hml : c.maxLocals = 2) (hR : 0 ≤ R.frames ∧ 0 ≤ R.locals) {x0 : Nat} {x1 : Int32} {mm : Mem} {r : Int32} {mm1 : Mem} (hf : fX4_lay (eS E) x0 x1 mm = some (r, mm1)) (hret : ∀ (pc : Nat) (H : Heap) (locs : List Loc) (ls : Array Slot), narrow .boolean (.int r) = .int r → decode cX4_lay pc = .ok (.ireturn, 1) → wS E s mm1 H locs → W p l e R s m args below meth c H locs 0 0 Q (F0 m pc ls [.int r])) : ∀ (H : Heap) (locs : List Loc) (ls : Array Slot), wS E s mm H locs → lv_has ls 2 [(0, .ref x0), (1, .int x1)] → W p l e R s m args below meth c H locs 0 0 Q (F0 m 0 ls []) := by
  have hx := X.1
  have hb := X.2.1
  have hR1 := hR.1
  have hR2 := hR.2
  have hRa : 0 ≤ R.frames := by omega
  have hRb : 0 ≤ R.locals := by omega
  unfold fX4_lay at hf
  intro H locs ls hS hl
  refine lv_aload_n hx hb dX4_lay_0 rfl (lv_at hl 0 rfl) ?_
  obtain ⟨v1, h1, hf⟩ := bs hf
  refine am_gi X hS fl_X4_21 rfl h1 dX4_lay_1 ?_
  refine lv_aload_n hx hb dX4_lay_4 rfl (lv_at hl 0 rfl) ?_
  obtain ⟨a2, h1, hf⟩ := bs hf
  refine am_gr X hS fl_X4_9 rfl h1 dX4_lay_5 ?_
  obtain ⟨v3, h1, hf⟩ := bs hf
  refine am_len X hS h1 dX4_lay_8 ?_
  refine lv_icmp_lt (tgt := 14) hx hb dX4_lay_9 (by decide) (fun q4 => ?_) (fun q4 => ?_)
  · have hf := ifp hf q4
    refine lv_aload_n hx hb dX4_lay_14 rfl (lv_at hl 0 rfl) ?_
    obtain ⟨a5, h1, hf⟩ := bs hf
    refine am_gr X hS fl_X4_9 rfl h1 dX4_lay_15 ?_
    refine lv_aload_n hx hb dX4_lay_18 rfl (lv_at hl 0 rfl) ?_
    obtain ⟨v6, h1, hf⟩ := bs hf
    refine am_gi X hS fl_X4_21 rfl h1 dX4_lay_19 ?_
    refine lv_iload_n hx hb dX4_lay_22 rfl (lv_at hl 1 rfl) ?_
    obtain ⟨m7, h1, hf⟩ := bs hf
    refine am_ast X hS h1 dX4_lay_23 (fun H locs hS => ?_)
    refine lv_aload_n hx hb dX4_lay_24 rfl (lv_at hl 0 rfl) ?_
    refine lv_dup hx hb dX4_lay_25 rfl ?_
    obtain ⟨v8, h1, hf⟩ := bs hf
    refine am_gi X hS fl_X4_21 rfl h1 dX4_lay_26 ?_
    refine lv_iconst (v := 1) hx hb dX4_lay_29 (by decide) ?_
    refine lv_iadd hx hb dX4_lay_30 ?_
    obtain ⟨m9, h1, hf⟩ := bs hf
    refine am_pi X hS fp_X4_21 rfl h1 dX4_lay_31 (fun H locs hS => ?_)
    refine lv_iconst (v := 1) hx hb dX4_lay_34 (by decide) ?_
    cases hf
    exact hret _ _ _ _ rfl dX4_lay_35 hS
  · have hf := ifn hf q4
    refine lv_iconst (v := 0) hx hb dX4_lay_12 (by decide) ?_
    cases hf
    exact hret _ _ _ _ rfl dX4_lay_13 hS
set_option maxRecDepth 100000 in
theorem cX4_lay_ok {l : Launch} {E : Ev} {x0 : Nat} {x1 : Int32} {mm : Mem} {r : Int32} {mm1 : Mem} (hf : fX4_lay (eS E) x0 x1 mm = some (r, mm1)) : CtI l yX4_lay cX4_lay 2 (some .boolean) (0) (0) E [.ref x0, .int x1] mm r mm1 := by
  refine Met.ofW (cc := cX4_lay) (maxL := 2) (ret := (some .boolean)) (by decide) rfl ?_
  intro p e s m args below meth c s₁ B hml hv
  obtain ⟨rfl, X, hS, hr, hlocks⟩ := am_in B hv
  refine am_entry (Nat.le_of_ble_eq_true rfl) (fun ls hl => ?_)
  exact wX4_lay X hml ⟨Nat.le_refl _, Nat.le_refl _⟩ hf (fun pc H locs ls hn hd hS => am_ri X hS hr hn hd hlocks) _ _ ls hS hl
set_option maxHeartbeats 4000000 in
set_option maxRecDepth 100000 in
theorem wX4_readUnit {p : Program} {l : Launch} {e : Env} {R : Room} {s : State} {m : MethodId} {args : Array Value} {below : List Frame} {meth : Method} {c : Code} {Q : State → Prop} {E : Ev} {S : Nat → Nat → Int32 → Mem → Option (Int32 × Mem)} {fr0 lo0 : Nat} (hSc : ∀ {z0 : Nat} {z1 : Nat} {z2 : Int32} {m0 : Mem} {rz : Int32} {mz : Mem}, S z0 z1 z2 m0 = some (rz, mz) → CtI l yX4_readSum cX4_readSum 6 (some .boolean) fr0 lo0 E [.ref z0, .ref z1, .int z2] m0 rz mz) (X : Cx p s m args c cX4_readUnit RX4 E) (hml : c.maxLocals = 5) (hR : fr0 + 6 ≤ R.frames ∧ lo0 + 134 ≤ R.locals) {x0 : Nat} {x1 : Nat} {x2 : Int32} {mm : Mem} {r : Int32} {mm1 : Mem} (hf : fX4_readUnit_o (eS E) S x0 x1 x2 mm = some (r, mm1)) (hret : ∀ (pc : Nat) (H : Heap) (locs : List Loc) (ls : Array Slot), narrow .boolean (.int r) = .int r → decode cX4_readUnit pc = .ok (.ireturn, 1) → wS E s mm1 H locs → W p l e R s m args below meth c H locs 0 0 Q (F0 m pc ls [.int r])) : ∀ (H : Heap) (locs : List Loc) (ls : Array Slot), wS E s mm H locs → lv_has ls 5 [(0, .ref x0), (1, .ref x1), (2, .int x2)] → W p l e R s m args below meth c H locs 0 0 Q (F0 m 0 ls []) := by
  have hx := X.1
  have hb := X.2.1
  have hR1 := hR.1
  have hR2 := hR.2
  have hRa : 6 ≤ R.frames := by omega
  have hRb : 134 ≤ R.locals := by omega
  unfold fX4_readUnit_o at hf
  have hj217 : ∀ (s0 : Int32) (mm : Mem) (H : Heap) (locs : List Loc) (ls : Array Slot), fX4_readUnit_j217 (eS E) S s0 mm = some (r, mm1) → wS E s mm H locs → lv_has ls 5 [] → W p l e R s m args below meth c H locs 0 0 Q (F0 m 217 ls [.int s0]) := by
    intro s0 mm H locs ls hf hS hl
    unfold fX4_readUnit_j217 at hf
    obtain ⟨v1, h1, hf⟩ := bs hf
    obtain ⟨rfl, h2⟩ := ckZ_n h1
    cases hf
    exact hret _ _ _ _ h2 dX4_readUnit_217 hS
  have hj216 : ∀ (mm : Mem) (H : Heap) (locs : List Loc) (ls : Array Slot), fX4_readUnit_j216 (eS E) S mm = some (r, mm1) → wS E s mm H locs → lv_has ls 5 [] → W p l e R s m args below meth c H locs 0 0 Q (F0 m 216 ls []) := by
    intro mm H locs ls hf hS hl
    unfold fX4_readUnit_j216 at hf
    refine lv_iconst (v := 0) hx hb dX4_readUnit_216 (by decide) ?_
    exact hj217 0 mm H locs ls hf hS hl
  have hj206 : ∀ (s0 : Nat) (s1 : Int32) (mm : Mem) (H : Heap) (locs : List Loc) (ls : Array Slot), fX4_readUnit_j206 (eS E) S s0 s1 mm = some (r, mm1) → wS E s mm H locs → lv_has ls 5 [] → W p l e R s m args below meth c H locs 0 0 Q (F0 m 206 ls [.int s1, .ref s0]) := by
    intro s0 s1 mm H locs ls hf hS hl
    unfold fX4_readUnit_j206 at hf
    obtain ⟨u0, h0, hf⟩ := bs hf
    obtain ⟨_, hrc⟩ := isO_n h0
    obtain ⟨v2, m3, h1, hf⟩ := bs2 hf
    refine am_endi hS (am_runV (As := [.int s1]) X (hml.trans hl.1.symm) hS (cX4_lay_ok (l := l) (E := E) h1) mv_X4_56 hrc rfl ⟨Nat.le_trans (by decide) hRa, Nat.le_trans (by decide) hRb⟩ ⟨Nat.zero_le _, Nat.zero_le _⟩ rfl rfl (Nat.le_of_ble_eq_true rfl) dX4_readUnit_206) (fun H locs hS => ?_)
    refine lv_if_eq (tgt := 216) hx hb dX4_readUnit_209 (by decide) (fun q4 => ?_) (fun q4 => ?_)
    · have hf := ifp hf q4
      exact hj216 m3 H locs ls hf hS hl
    · have hf := ifn hf q4
      refine lv_iconst (v := 1) hx hb dX4_readUnit_212 (by decide) ?_
      refine lv_goto (tgt := 217) hx hb dX4_readUnit_213 (by decide) ?_
      exact hj217 1 m3 H locs ls hf hS hl
  have hj92 : ∀ (s0 : Int32) (mm : Mem) (H : Heap) (locs : List Loc) (ls : Array Slot), fX4_readUnit_j92 (eS E) S s0 mm = some (r, mm1) → wS E s mm H locs → lv_has ls 5 [] → W p l e R s m args below meth c H locs 0 0 Q (F0 m 92 ls [.int s0]) := by
    intro s0 mm H locs ls hf hS hl
    unfold fX4_readUnit_j92 at hf
    obtain ⟨v5, h1, hf⟩ := bs hf
    obtain ⟨rfl, h2⟩ := ckZ_n h1
    cases hf
    exact hret _ _ _ _ h2 dX4_readUnit_92 hS
  have hj82 : ∀ (mm : Mem) (H : Heap) (locs : List Loc) (ls : Array Slot), fX4_readUnit_j82 (eS E) S mm = some (r, mm1) → wS E s mm H locs → lv_has ls 5 [] → W p l e R s m args below meth c H locs 0 0 Q (F0 m 82 ls []) := by
    intro mm H locs ls hf hS hl
    unfold fX4_readUnit_j82 at hf
    refine lv_iconst (v := 0) hx hb dX4_readUnit_82 (by decide) ?_
    refine lv_goto (tgt := 92) hx hb dX4_readUnit_83 (by decide) ?_
    exact hj92 0 mm H locs ls hf hS hl
  have hj42 : ∀ (s0 : Int32) (mm : Mem) (H : Heap) (locs : List Loc) (ls : Array Slot), fX4_readUnit_j42 (eS E) S s0 mm = some (r, mm1) → wS E s mm H locs → lv_has ls 5 [] → W p l e R s m args below meth c H locs 0 0 Q (F0 m 42 ls [.int s0]) := by
    intro s0 mm H locs ls hf hS hl
    unfold fX4_readUnit_j42 at hf
    obtain ⟨v6, h1, hf⟩ := bs hf
    obtain ⟨rfl, h2⟩ := ckZ_n h1
    cases hf
    exact hret _ _ _ _ h2 dX4_readUnit_42 hS
  have hj41 : ∀ (mm : Mem) (H : Heap) (locs : List Loc) (ls : Array Slot), fX4_readUnit_j41 (eS E) S mm = some (r, mm1) → wS E s mm H locs → lv_has ls 5 [] → W p l e R s m args below meth c H locs 0 0 Q (F0 m 41 ls []) := by
    intro mm H locs ls hf hS hl
    unfold fX4_readUnit_j41 at hf
    refine lv_iconst (v := 0) hx hb dX4_readUnit_41 (by decide) ?_
    exact hj42 0 mm H locs ls hf hS hl
  intro H locs ls hS hl
  refine lv_aload_n hx hb dX4_readUnit_0 rfl (lv_at hl 1 rfl) ?_
  obtain ⟨u0, h0, hf⟩ := bs hf
  obtain ⟨_, hrc⟩ := isO_n h0
  obtain ⟨v7, m8, h1, hf⟩ := bs2 hf
  refine am_endi hS (am_runV (As := []) X (hml.trans hl.1.symm) hS (cX8_next_ok (l := l) (E := E) h1) mv_X4_41 hrc rfl ⟨Nat.le_trans (by decide) hRa, Nat.le_trans (by decide) hRb⟩ ⟨Nat.zero_le _, Nat.zero_le _⟩ rfl rfl (Nat.le_of_ble_eq_true rfl) dX4_readUnit_1) (fun H locs hS => ?_)
  refine lv_topi (fun x3_9 e1 => ?_)
  have hf := lt1_n e1 hf
  refine lv_istore_n (lv' := [(3, .int x3_9), (0, .ref x0), (1, .ref x1), (2, .int x2)]) hx hb dX4_readUnit_4 rfl hl (by decide) rfl (fun ls hl => ?_)
  refine lv_aload_n hx hb dX4_readUnit_5 rfl (lv_at hl 2 rfl) ?_
  obtain ⟨u0, h0, hf⟩ := bs hf
  obtain ⟨_, hrc⟩ := isO_n h0
  obtain ⟨v10, m11, h1, hf⟩ := bs2 hf
  refine am_endi hS (am_runV (As := []) X (hml.trans hl.1.symm) hS (cX8_seesDigit_ok (l := l) (E := E) h1) mv_X4_63 hrc rfl ⟨Nat.le_trans (by decide) hRa, Nat.le_trans (by decide) hRb⟩ ⟨Nat.zero_le _, Nat.zero_le _⟩ rfl rfl (Nat.le_of_ble_eq_true rfl) dX4_readUnit_6) (fun H locs hS => ?_)
  refine lv_if_eq (tgt := 43) hx hb dX4_readUnit_9 (by decide) (fun q12 => ?_) (fun q12 => ?_)
  · have hf := ifp hf q12
    refine lv_aload_n hx hb dX4_readUnit_43 rfl (lv_at hl 2 rfl) ?_
    refine lv_bipush (v := 40) hx hb dX4_readUnit_44 (by decide) ?_
    obtain ⟨u0, h0, hf⟩ := bs hf
    obtain ⟨_, hrc⟩ := isO_n h0
    obtain ⟨v13, m14, h1, hf⟩ := bs2 hf
    refine am_endi hS (am_runV (As := [.int 40]) X (hml.trans hl.1.symm) hS (cX8_takes_ok (l := l) (E := E) h1) mv_X4_52 hrc rfl ⟨Nat.le_trans (by decide) hRa, Nat.le_trans (by decide) hRb⟩ ⟨Nat.zero_le _, Nat.zero_le _⟩ rfl rfl (Nat.le_of_ble_eq_true rfl) dX4_readUnit_46) (fun H locs hS => ?_)
    refine lv_if_eq (tgt := 93) hx hb dX4_readUnit_49 (by decide) (fun q15 => ?_) (fun q15 => ?_)
    · have hf := ifp hf q15
      refine lv_aload_n hx hb dX4_readUnit_93 rfl (lv_at hl 2 rfl) ?_
      refine am_ldcS (i := 2) X (by decide) rfl rfl dX4_readUnit_94 ?_
      obtain ⟨u0, h0, hf⟩ := bs hf
      obtain ⟨_, hrc⟩ := isO_n h0
      obtain ⟨v16, m17, h1, hf⟩ := bs2 hf
      refine am_endi hS (am_runV (As := [.ref (eK E 2)]) X (hml.trans hl.1.symm) hS (cX8_word_ok (l := l) (E := E) h1) mv_X4_75 hrc rfl ⟨Nat.le_trans (by decide) hRa, Nat.le_trans (by decide) hRb⟩ ⟨Nat.zero_le _, Nat.zero_le _⟩ rfl rfl (Nat.le_of_ble_eq_true rfl) dX4_readUnit_96) (fun H locs hS => ?_)
      refine lv_topi (fun x4_18 e1 => ?_)
      have hf := lt1_n e1 hf
      refine lv_istore (lv' := [(4, .int x4_18), (3, .int x3_9), (0, .ref x0), (1, .ref x1), (2, .int x2)]) hx hb dX4_readUnit_99 hl (by decide) rfl (fun ls hl => ?_)
      refine lv_iload hx hb dX4_readUnit_101 (lv_at hl 0 rfl) ?_
      refine lv_iconst (v := (-1)) hx hb dX4_readUnit_103 (by decide) ?_
      refine lv_icmp_ne (tgt := 109) hx hb dX4_readUnit_104 (by decide) (fun q19 => ?_) (fun q19 => ?_)
      · have hf := ifn hf q19
        refine lv_iload hx hb dX4_readUnit_109 (lv_at hl 0 rfl) ?_
        refine lv_bipush (v := 8) hx hb dX4_readUnit_111 (by decide) ?_
        refine lv_icmp_ge (tgt := 127) hx hb dX4_readUnit_113 (by decide) (fun q20 => ?_) (fun q20 => ?_)
        · have hf := ifp hf q20
          refine lv_iload_n hx hb dX4_readUnit_127 rfl (lv_at hl 4 rfl) ?_
          refine lv_bipush (v := 6) hx hb dX4_readUnit_128 (by decide) ?_
          refine lv_icmp_lt (tgt := 140) hx hb dX4_readUnit_130 (by decide) (fun q21 => ?_) (fun q21 => ?_)
          · have hf := ifp hf q21
            refine lv_aload_n hx hb dX4_readUnit_140 rfl (lv_at hl 3 rfl) ?_
            refine lv_bipush (v := 91) hx hb dX4_readUnit_141 (by decide) ?_
            obtain ⟨u0, h0, hf⟩ := bs hf
            obtain ⟨_, hrc⟩ := isO_n h0
            obtain ⟨v22, m23, h1, hf⟩ := bs2 hf
            refine am_endi hS (am_runV (As := [.int 91]) X (hml.trans hl.1.symm) hS (cX8_wants_ok (l := l) (E := E) h1) mv_X4_70 hrc rfl ⟨Nat.le_trans (by decide) hRa, Nat.le_trans (by decide) hRb⟩ ⟨Nat.zero_le _, Nat.zero_le _⟩ rfl rfl (Nat.le_of_ble_eq_true rfl) dX4_readUnit_143) (fun H locs hS => ?_)
            refine lv_if_eq (tgt := 216) hx hb dX4_readUnit_146 (by decide) (fun q24 => ?_) (fun q24 => ?_)
            · have hf := ifp hf q24
              exact hj216 m23 H locs ls hf hS (lv_sub hl [] rfl)
            · have hf := ifn hf q24
              refine lv_aload_n hx hb dX4_readUnit_149 rfl (lv_at hl 2 rfl) ?_
              refine lv_aload_n hx hb dX4_readUnit_150 rfl (lv_at hl 3 rfl) ?_
              refine lv_iload_n hx hb dX4_readUnit_151 rfl (lv_at hl 4 rfl) ?_
              refine lv_iconst (v := 1) hx hb dX4_readUnit_152 (by decide) ?_
              refine lv_iadd hx hb dX4_readUnit_153 ?_
              obtain ⟨u0, h0, hf⟩ := bs hf
              obtain ⟨_, hrc⟩ := isO_n h0
              obtain ⟨v25, m26, h1, hf⟩ := bs2 hf
              refine am_endi hS (am_runV (As := [.ref x1, .int (x2 + 1)]) X (hml.trans hl.1.symm) hS (hSc h1) mv_X4_31 hrc rfl ⟨by omega, by omega⟩ ⟨Nat.zero_le _, Nat.zero_le _⟩ rfl rfl (Nat.le_of_ble_eq_true rfl) dX4_readUnit_154) (fun H locs hS => ?_)
              refine lv_if_eq (tgt := 216) hx hb dX4_readUnit_157 (by decide) (fun q27 => ?_) (fun q27 => ?_)
              · have hf := ifp hf q27
                exact hj216 m26 H locs ls hf hS (lv_sub hl [] rfl)
              · have hf := ifn hf q27
                refine lv_aload_n hx hb dX4_readUnit_160 rfl (lv_at hl 3 rfl) ?_
                refine lv_bipush (v := 44) hx hb dX4_readUnit_161 (by decide) ?_
                obtain ⟨u0, h0, hf⟩ := bs hf
                obtain ⟨_, hrc⟩ := isO_n h0
                obtain ⟨v28, m29, h1, hf⟩ := bs2 hf
                refine am_endi hS (am_runV (As := [.int 44]) X (hml.trans hl.1.symm) hS (cX8_wants_ok (l := l) (E := E) h1) mv_X4_70 hrc rfl ⟨Nat.le_trans (by decide) hRa, Nat.le_trans (by decide) hRb⟩ ⟨Nat.zero_le _, Nat.zero_le _⟩ rfl rfl (Nat.le_of_ble_eq_true rfl) dX4_readUnit_163) (fun H locs hS => ?_)
                refine lv_if_eq (tgt := 216) hx hb dX4_readUnit_166 (by decide) (fun q30 => ?_) (fun q30 => ?_)
                · have hf := ifp hf q30
                  exact hj216 m29 H locs ls hf hS (lv_sub hl [] rfl)
                · have hf := ifn hf q30
                  refine lv_aload_n hx hb dX4_readUnit_169 rfl (lv_at hl 2 rfl) ?_
                  refine lv_aload_n hx hb dX4_readUnit_170 rfl (lv_at hl 3 rfl) ?_
                  refine lv_iload_n hx hb dX4_readUnit_171 rfl (lv_at hl 4 rfl) ?_
                  refine lv_iconst (v := 1) hx hb dX4_readUnit_172 (by decide) ?_
                  refine lv_iadd hx hb dX4_readUnit_173 ?_
                  obtain ⟨u0, h0, hf⟩ := bs hf
                  obtain ⟨_, hrc⟩ := isO_n h0
                  obtain ⟨v31, m32, h1, hf⟩ := bs2 hf
                  refine am_endi hS (am_runV (As := [.ref x1, .int (x2 + 1)]) X (hml.trans hl.1.symm) hS (hSc h1) mv_X4_31 hrc rfl ⟨by omega, by omega⟩ ⟨Nat.zero_le _, Nat.zero_le _⟩ rfl rfl (Nat.le_of_ble_eq_true rfl) dX4_readUnit_174) (fun H locs hS => ?_)
                  refine lv_if_eq (tgt := 216) hx hb dX4_readUnit_177 (by decide) (fun q33 => ?_) (fun q33 => ?_)
                  · have hf := ifp hf q33
                    exact hj216 m32 H locs ls hf hS (lv_sub hl [] rfl)
                  · have hf := ifn hf q33
                    refine lv_aload_n hx hb dX4_readUnit_180 rfl (lv_at hl 3 rfl) ?_
                    refine lv_bipush (v := 93) hx hb dX4_readUnit_181 (by decide) ?_
                    obtain ⟨u0, h0, hf⟩ := bs hf
                    obtain ⟨_, hrc⟩ := isO_n h0
                    obtain ⟨v34, m35, h1, hf⟩ := bs2 hf
                    refine am_endi hS (am_runV (As := [.int 93]) X (hml.trans hl.1.symm) hS (cX8_wants_ok (l := l) (E := E) h1) mv_X4_70 hrc rfl ⟨Nat.le_trans (by decide) hRa, Nat.le_trans (by decide) hRb⟩ ⟨Nat.zero_le _, Nat.zero_le _⟩ rfl rfl (Nat.le_of_ble_eq_true rfl) dX4_readUnit_183) (fun H locs hS => ?_)
                    refine lv_if_eq (tgt := 216) hx hb dX4_readUnit_186 (by decide) (fun q36 => ?_) (fun q36 => ?_)
                    · have hf := ifp hf q36
                      exact hj216 m35 H locs ls hf hS (lv_sub hl [] rfl)
                    · have hf := ifn hf q36
                      refine lv_aload_n hx hb dX4_readUnit_189 rfl (lv_at hl 2 rfl) ?_
                      refine lv_iload hx hb dX4_readUnit_190 (lv_at hl 0 rfl) ?_
                      refine lv_bipush (v := 8) hx hb dX4_readUnit_192 (by decide) ?_
                      refine lv_icmp_ne (tgt := 203) hx hb dX4_readUnit_194 (by decide) (fun q37 => ?_) (fun q37 => ?_)
                      · have hf := ifn hf q37
                        refine lv_sipush (v := 1106) hx hb dX4_readUnit_203 (by decide) ?_
                        exact hj206 x0 1106 m35 H locs ls hf hS (lv_sub hl [] rfl)
                      · have hf := ifp hf q37
                        refine lv_sipush (v := 1105) hx hb dX4_readUnit_197 (by decide) ?_
                        refine lv_goto (tgt := 206) hx hb dX4_readUnit_200 (by decide) ?_
                        exact hj206 x0 1105 m35 H locs ls hf hS (lv_sub hl [] rfl)
          · have hf := ifn hf q21
            refine lv_aload_n hx hb dX4_readUnit_133 rfl (lv_at hl 3 rfl) ?_
            refine lv_iconst (v := 3) hx hb dX4_readUnit_134 (by decide) ?_
            refine lv_iload_n hx hb dX4_readUnit_135 rfl (lv_at hl 1 rfl) ?_
            obtain ⟨u0, h0, hf⟩ := bs hf
            obtain ⟨_, hrc⟩ := isO_n h0
            obtain ⟨v38, m39, h1, hf⟩ := bs2 hf
            refine am_endi hS (am_runV (As := [.int 3, .int x3_9]) X (hml.trans hl.1.symm) hS (cX8_fail_ok (l := l) (E := E) h1) mv_X4_45 hrc rfl ⟨Nat.le_trans (by decide) hRa, Nat.le_trans (by decide) hRb⟩ ⟨Nat.zero_le _, Nat.zero_le _⟩ rfl rfl (Nat.le_of_ble_eq_true rfl) dX4_readUnit_136) (fun H locs hS => ?_)
            obtain ⟨v40, h1, hf⟩ := bs hf
            obtain ⟨rfl, h2⟩ := ckZ_n h1
            cases hf
            exact hret _ _ _ _ h2 dX4_readUnit_139 hS
        · have hf := ifn hf q20
          refine lv_aload_n hx hb dX4_readUnit_116 rfl (lv_at hl 2 rfl) ?_
          refine lv_sipush (v := 1000) hx hb dX4_readUnit_117 (by decide) ?_
          refine lv_iload hx hb dX4_readUnit_120 (lv_at hl 0 rfl) ?_
          refine lv_iadd hx hb dX4_readUnit_122 ?_
          obtain ⟨u0, h0, hf⟩ := bs hf
          obtain ⟨_, hrc⟩ := isO_n h0
          obtain ⟨v41, m42, h1, hf⟩ := bs2 hf
          refine am_endi hS (am_runV (As := [.int (1000 + x4_18)]) X (hml.trans hl.1.symm) hS (cX4_lay_ok (l := l) (E := E) h1) mv_X4_56 hrc rfl ⟨Nat.le_trans (by decide) hRa, Nat.le_trans (by decide) hRb⟩ ⟨Nat.zero_le _, Nat.zero_le _⟩ rfl rfl (Nat.le_of_ble_eq_true rfl) dX4_readUnit_123) (fun H locs hS => ?_)
          obtain ⟨v43, h1, hf⟩ := bs hf
          obtain ⟨rfl, h2⟩ := ckZ_n h1
          cases hf
          exact hret _ _ _ _ h2 dX4_readUnit_126 hS
      · have hf := ifp hf q19
        refine lv_iconst (v := 0) hx hb dX4_readUnit_107 (by decide) ?_
        cases hf
        exact hret _ _ _ _ rfl dX4_readUnit_108 hS
    · have hf := ifn hf q15
      refine lv_iload_n hx hb dX4_readUnit_52 rfl (lv_at hl 3 rfl) ?_
      refine lv_bipush (v := 6) hx hb dX4_readUnit_53 (by decide) ?_
      refine lv_icmp_ge (tgt := 86) hx hb dX4_readUnit_55 (by decide) (fun q44 => ?_) (fun q44 => ?_)
      · have hf := ifp hf q44
        refine lv_aload_n hx hb dX4_readUnit_86 rfl (lv_at hl 2 rfl) ?_
        refine lv_iconst (v := 3) hx hb dX4_readUnit_87 (by decide) ?_
        refine lv_iload_n hx hb dX4_readUnit_88 rfl (lv_at hl 0 rfl) ?_
        obtain ⟨u0, h0, hf⟩ := bs hf
        obtain ⟨_, hrc⟩ := isO_n h0
        obtain ⟨v45, m46, h1, hf⟩ := bs2 hf
        refine am_endi hS (am_runV (As := [.int 3, .int x3_9]) X (hml.trans hl.1.symm) hS (cX8_fail_ok (l := l) (E := E) h1) mv_X4_45 hrc rfl ⟨Nat.le_trans (by decide) hRa, Nat.le_trans (by decide) hRb⟩ ⟨Nat.zero_le _, Nat.zero_le _⟩ rfl rfl (Nat.le_of_ble_eq_true rfl) dX4_readUnit_89) (fun H locs hS => ?_)
        exact hj92 v45 m46 H locs ls hf hS (lv_sub hl [] rfl)
      · have hf := ifn hf q44
        refine lv_aload_n hx hb dX4_readUnit_58 rfl (lv_at hl 1 rfl) ?_
        refine lv_aload_n hx hb dX4_readUnit_59 rfl (lv_at hl 2 rfl) ?_
        refine lv_iload_n hx hb dX4_readUnit_60 rfl (lv_at hl 3 rfl) ?_
        refine lv_iconst (v := 1) hx hb dX4_readUnit_61 (by decide) ?_
        refine lv_iadd hx hb dX4_readUnit_62 ?_
        obtain ⟨u0, h0, hf⟩ := bs hf
        obtain ⟨_, hrc⟩ := isO_n h0
        obtain ⟨v47, m48, h1, hf⟩ := bs2 hf
        refine am_endi hS (am_runV (As := [.ref x1, .int (x2 + 1)]) X (hml.trans hl.1.symm) hS (hSc h1) mv_X4_31 hrc rfl ⟨by omega, by omega⟩ ⟨Nat.zero_le _, Nat.zero_le _⟩ rfl rfl (Nat.le_of_ble_eq_true rfl) dX4_readUnit_63) (fun H locs hS => ?_)
        refine lv_if_eq (tgt := 82) hx hb dX4_readUnit_66 (by decide) (fun q49 => ?_) (fun q49 => ?_)
        · have hf := ifp hf q49
          exact hj82 m48 H locs ls hf hS (lv_sub hl [] rfl)
        · have hf := ifn hf q49
          refine lv_aload_n hx hb dX4_readUnit_69 rfl (lv_at hl 2 rfl) ?_
          refine lv_bipush (v := 41) hx hb dX4_readUnit_70 (by decide) ?_
          obtain ⟨u0, h0, hf⟩ := bs hf
          obtain ⟨_, hrc⟩ := isO_n h0
          obtain ⟨v50, m51, h1, hf⟩ := bs2 hf
          refine am_endi hS (am_runV (As := [.int 41]) X (hml.trans hl.1.symm) hS (cX8_wants_ok (l := l) (E := E) h1) mv_X4_70 hrc rfl ⟨Nat.le_trans (by decide) hRa, Nat.le_trans (by decide) hRb⟩ ⟨Nat.zero_le _, Nat.zero_le _⟩ rfl rfl (Nat.le_of_ble_eq_true rfl) dX4_readUnit_72) (fun H locs hS => ?_)
          refine lv_if_eq (tgt := 82) hx hb dX4_readUnit_75 (by decide) (fun q52 => ?_) (fun q52 => ?_)
          · have hf := ifp hf q52
            exact hj82 m51 H locs ls hf hS (lv_sub hl [] rfl)
          · have hf := ifn hf q52
            refine lv_iconst (v := 1) hx hb dX4_readUnit_78 (by decide) ?_
            refine lv_goto (tgt := 92) hx hb dX4_readUnit_79 (by decide) ?_
            exact hj92 1 m51 H locs ls hf hS (lv_sub hl [] rfl)
  · have hf := ifn hf q12
    refine lv_aload_n hx hb dX4_readUnit_12 rfl (lv_at hl 2 rfl) ?_
    refine lv_iconst (v := 0) hx hb dX4_readUnit_13 (by decide) ?_
    refine lv_sipush (v := 999) hx hb dX4_readUnit_14 (by decide) ?_
    obtain ⟨u0, h0, hf⟩ := bs hf
    obtain ⟨_, hrc⟩ := isO_n h0
    obtain ⟨v53, m54, h1, hf⟩ := bs2 hf
    refine am_endi hS (am_runV (As := [.int 0, .int 999]) X (hml.trans hl.1.symm) hS (cX8_number_ok (l := l) (E := E) h1) mv_X4_66 hrc rfl ⟨Nat.le_trans (by decide) hRa, Nat.le_trans (by decide) hRb⟩ ⟨Nat.zero_le _, Nat.zero_le _⟩ rfl rfl (Nat.le_of_ble_eq_true rfl) dX4_readUnit_17) (fun H locs hS => ?_)
    refine lv_topi (fun x4_55 e1 => ?_)
    have hf := lt1_n e1 hf
    refine lv_istore (lv' := [(4, .int x4_55), (3, .int x3_9), (0, .ref x0), (1, .ref x1), (2, .int x2)]) hx hb dX4_readUnit_20 hl (by decide) rfl (fun ls hl => ?_)
    refine lv_iload hx hb dX4_readUnit_22 (lv_at hl 0 rfl) ?_
    refine lv_iconst (v := (-1)) hx hb dX4_readUnit_24 (by decide) ?_
    refine lv_icmp_eq (tgt := 41) hx hb dX4_readUnit_25 (by decide) (fun q56 => ?_) (fun q56 => ?_)
    · have hf := ifp hf q56
      exact hj41 m54 H locs ls hf hS (lv_sub hl [] rfl)
    · have hf := ifn hf q56
      refine lv_aload_n hx hb dX4_readUnit_28 rfl (lv_at hl 2 rfl) ?_
      refine lv_iload hx hb dX4_readUnit_29 (lv_at hl 0 rfl) ?_
      obtain ⟨u0, h0, hf⟩ := bs hf
      obtain ⟨_, hrc⟩ := isO_n h0
      obtain ⟨v57, m58, h1, hf⟩ := bs2 hf
      refine am_endi hS (am_runV (As := [.int x4_55]) X (hml.trans hl.1.symm) hS (cX4_lay_ok (l := l) (E := E) h1) mv_X4_56 hrc rfl ⟨Nat.le_trans (by decide) hRa, Nat.le_trans (by decide) hRb⟩ ⟨Nat.zero_le _, Nat.zero_le _⟩ rfl rfl (Nat.le_of_ble_eq_true rfl) dX4_readUnit_31) (fun H locs hS => ?_)
      refine lv_if_eq (tgt := 41) hx hb dX4_readUnit_34 (by decide) (fun q59 => ?_) (fun q59 => ?_)
      · have hf := ifp hf q59
        exact hj41 m58 H locs ls hf hS (lv_sub hl [] rfl)
      · have hf := ifn hf q59
        refine lv_iconst (v := 1) hx hb dX4_readUnit_37 (by decide) ?_
        refine lv_goto (tgt := 42) hx hb dX4_readUnit_38 (by decide) ?_
        exact hj42 1 m58 H locs ls hf hS (lv_sub hl [] rfl)
set_option maxRecDepth 100000 in
theorem cX4_readUnit_o_ok {l : Launch} {E : Ev} {S : Nat → Nat → Int32 → Mem → Option (Int32 × Mem)} {fr0 lo0 : Nat} (hSc : ∀ {z0 : Nat} {z1 : Nat} {z2 : Int32} {m0 : Mem} {rz : Int32} {mz : Mem}, S z0 z1 z2 m0 = some (rz, mz) → CtI l yX4_readSum cX4_readSum 6 (some .boolean) fr0 lo0 E [.ref z0, .ref z1, .int z2] m0 rz mz) {x0 : Nat} {x1 : Nat} {x2 : Int32} {mm : Mem} {r : Int32} {mm1 : Mem} (hf : fX4_readUnit_o (eS E) S x0 x1 x2 mm = some (r, mm1)) : CtI l yX4_readUnit cX4_readUnit 5 (some .boolean) (fr0 + 6) (lo0 + 134) E [.ref x0, .ref x1, .int x2] mm r mm1 := by
  refine Met.ofW (cc := cX4_readUnit) (maxL := 5) (ret := (some .boolean)) (by decide) rfl ?_
  intro p e s m args below meth c s₁ B hml hv
  obtain ⟨rfl, X, hS, hr, hlocks⟩ := am_in B hv
  refine am_entry (Nat.le_of_ble_eq_true rfl) (fun ls hl => ?_)
  exact wX4_readUnit hSc X hml ⟨Nat.le_refl _, Nat.le_refl _⟩ hf (fun pc H locs ls hn hd hS => am_ri X hS hr hn hd hlocks) _ _ ls hS hl
set_option maxHeartbeats 4000000 in
set_option maxRecDepth 100000 in
theorem wX4_readProduct {p : Program} {l : Launch} {e : Env} {R : Room} {s : State} {m : MethodId} {args : Array Value} {below : List Frame} {meth : Method} {c : Code} {Q : State → Prop} {E : Ev} {S : Nat → Nat → Int32 → Mem → Option (Int32 × Mem)} {fr0 lo0 : Nat} (hSc : ∀ {z0 : Nat} {z1 : Nat} {z2 : Int32} {m0 : Mem} {rz : Int32} {mz : Mem}, S z0 z1 z2 m0 = some (rz, mz) → CtI l yX4_readSum cX4_readSum 6 (some .boolean) fr0 lo0 E [.ref z0, .ref z1, .int z2] m0 rz mz) (X : Cx p s m args c cX4_readProduct RX4 E) (hml : c.maxLocals = 6) (hR : fr0 + 7 ≤ R.frames ∧ lo0 + 158 ≤ R.locals) {x0 : Nat} {x1 : Nat} {x2 : Int32} {mm : Mem} {r : Int32} {mm1 : Mem} (hf : fX4_readProduct_o (eS E) S x0 x1 x2 mm = some (r, mm1)) (hret : ∀ (pc : Nat) (H : Heap) (locs : List Loc) (ls : Array Slot), narrow .boolean (.int r) = .int r → decode cX4_readProduct pc = .ok (.ireturn, 1) → wS E s mm1 H locs → W p l e R s m args below meth c H locs 0 0 Q (F0 m pc ls [.int r])) : ∀ (H : Heap) (locs : List Loc) (ls : Array Slot), wS E s mm H locs → lv_has ls 6 [(0, .ref x0), (1, .ref x1), (2, .int x2)] → W p l e R s m args below meth c H locs 0 0 Q (F0 m 0 ls []) := by
  have hx := X.1
  have hb := X.2.1
  have hR1 := hR.1
  have hR2 := hR.2
  have hRa : 7 ≤ R.frames := by omega
  have hRb : 158 ≤ R.locals := by omega
  unfold fX4_readProduct_o at hf
  have hj108 : ∀ (x3 : Int32) (mm : Mem) (H : Heap) (locs : List Loc) (ls : Array Slot), fX4_readProduct_j108 (eS E) S x3 mm = some (r, mm1) → wS E s mm H locs → lv_has ls 6 [(3, .int x3)] → W p l e R s m args below meth c H locs 0 0 Q (F0 m 108 ls []) := by
    intro x3 mm H locs ls hf hS hl
    unfold fX4_readProduct_j108 at hf
    refine lv_iload_n hx hb dX4_readProduct_108 rfl (lv_at hl 0 rfl) ?_
    obtain ⟨v1, h1, hf⟩ := bs hf
    obtain ⟨rfl, h2⟩ := ckZ_n h1
    cases hf
    exact hret _ _ _ _ h2 dX4_readProduct_109 hS
  have hj76 : ∀ (mm : Mem) (H : Heap) (locs : List Loc) (ls : Array Slot), fX4_readProduct_j76 (eS E) S mm = some (r, mm1) → wS E s mm H locs → lv_has ls 6 [] → W p l e R s m args below meth c H locs 0 0 Q (F0 m 76 ls []) := by
    intro mm H locs ls hf hS hl
    unfold fX4_readProduct_j76 at hf
    refine lv_iconst (v := 1) hx hb dX4_readProduct_76 (by decide) ?_
    cases hf
    exact hret _ _ _ _ rfl dX4_readProduct_77 hS
  intro H locs ls hS hl
  refine lv_aload_n hx hb dX4_readProduct_0 rfl (lv_at hl 0 rfl) ?_
  refine lv_aload_n hx hb dX4_readProduct_1 rfl (lv_at hl 1 rfl) ?_
  refine lv_iload_n hx hb dX4_readProduct_2 rfl (lv_at hl 2 rfl) ?_
  obtain ⟨u0, h0, hf⟩ := bs hf
  obtain ⟨_, hrc⟩ := isO_n h0
  obtain ⟨v2, m3, h1, hf⟩ := bs2 hf
  refine am_endi hS (am_runV (As := [.ref x1, .int x2]) X (hml.trans hl.1.symm) hS (cX4_readUnit_o_ok (l := l) (E := E) hSc h1) mv_X4_60 hrc rfl ⟨by omega, by omega⟩ ⟨Nat.zero_le _, Nat.zero_le _⟩ rfl rfl (Nat.le_of_ble_eq_true rfl) dX4_readProduct_3) (fun H locs hS => ?_)
  refine lv_topi (fun x3_4 e1 => ?_)
  have hf := lt1_n e1 hf
  refine lv_istore_n (lv' := [(3, .int x3_4), (0, .ref x0), (1, .ref x1), (2, .int x2)]) hx hb dX4_readProduct_6 rfl hl (by decide) rfl (fun ls hl => ?_)
  refine lv_iconst (v := 0) hx hb dX4_readProduct_7 (by decide) ?_
  refine lv_topi (fun x4_5 e1 => ?_)
  have hf := lt1_n e1 hf
  refine lv_istore (lv' := [(4, .int x4_5), (3, .int x3_4), (0, .ref x0), (1, .ref x1), (2, .int x2)]) hx hb dX4_readProduct_8 hl (by decide) rfl (fun ls hl => ?_)
  obtain ⟨ex10, hl10, hk10⟩ := bs hf
  refine loop_W (P := fun st => ∀ (H : Heap) (locs : List Loc) (ls : Array Slot), wS E s st.2.2 H locs → lv_has ls 6 [(0, .ref x0), (1, .ref x1), (2, .int x2), (3, .int st.1), (4, .int st.2.1)] → W p l e R s m args below meth c H locs 0 0 Q (F0 m 10 ls [])) (ex := ex10) ?_ FU _ hl10 H locs ls hS (lv_sub hl [2, 3, 4, 1, 0] rfl)
  intro st y10 hf hyL10 hyR10 H locs ls hS hl
  obtain ⟨x3, x4, mm⟩ := st
  have hf : fX4_readProduct_b10 (eS E) S x0 x1 x2 x3 x4 mm = some y10 := hf
  have hS : wS E s mm H locs := hS
  have hl : lv_has ls 6 [(0, .ref x0), (1, .ref x1), (2, .int x2), (3, .int x3), (4, .int x4)] := hl
  unfold fX4_readProduct_b10 at hf
  have hj101 : ∀ (x4 : Int32) (s0 : Int32) (mm : Mem) (H : Heap) (locs : List Loc) (ls : Array Slot), fX4_readProduct_j101 (eS E) S x0 x1 x2 x4 s0 mm = some y10 → wS E s mm H locs → lv_has ls 6 [(0, .ref x0), (1, .ref x1), (2, .int x2), (4, .int x4)] → W p l e R s m args below meth c H locs 0 0 Q (F0 m 101 ls [.int s0]) := by
    intro x4 s0 mm H locs ls hf hS hl
    unfold fX4_readProduct_j101 at hf
    refine lv_topi (fun x3_6 e1 => ?_)
    have hf := lt1_n e1 hf
    refine lv_istore_n (lv' := [(3, .int x3_6), (0, .ref x0), (1, .ref x1), (2, .int x2), (4, .int x4)]) hx hb dX4_readProduct_101 rfl hl (by decide) rfl (fun ls hl => ?_)
    obtain ⟨x4_7, e1⟩ : ∃ z : Int32, z = x4 + 1 := ⟨_, rfl⟩
    have hf := lt1_n e1 hf
    refine lv_iinc (v := x4_7) (lv' := [(4, .int x4_7), (3, .int x3_6), (0, .ref x0), (1, .ref x1), (2, .int x2)]) hx hb dX4_readProduct_102 hl (k := 4) rfl (by rw [e1]; rfl) (by decide) rfl (fun ls hl => ?_)
    refine lv_goto (tgt := 10) hx hb dX4_readProduct_105 (by decide) ?_
    exact hyL10 _ (Option.some.inj hf).symm H locs ls hS (lv_sub hl [2, 3, 4, 1, 0] rfl)
  have hj100 : ∀ (x4 : Int32) (mm : Mem) (H : Heap) (locs : List Loc) (ls : Array Slot), fX4_readProduct_j100 (eS E) S x0 x1 x2 x4 mm = some y10 → wS E s mm H locs → lv_has ls 6 [(0, .ref x0), (1, .ref x1), (2, .int x2), (4, .int x4)] → W p l e R s m args below meth c H locs 0 0 Q (F0 m 100 ls []) := by
    intro x4 mm H locs ls hf hS hl
    unfold fX4_readProduct_j100 at hf
    refine lv_iconst (v := 0) hx hb dX4_readProduct_100 (by decide) ?_
    exact hj101 x4 0 mm H locs ls hf hS hl
  have hj68 : ∀ (x4 : Int32) (s0 : Int32) (mm : Mem) (H : Heap) (locs : List Loc) (ls : Array Slot), fX4_readProduct_j68 (eS E) S x0 x1 x2 x4 s0 mm = some y10 → wS E s mm H locs → lv_has ls 6 [(0, .ref x0), (1, .ref x1), (2, .int x2), (4, .int x4)] → W p l e R s m args below meth c H locs 0 0 Q (F0 m 68 ls [.int s0]) := by
    intro x4 s0 mm H locs ls hf hS hl
    unfold fX4_readProduct_j68 at hf
    refine lv_topi (fun x5_8 e1 => ?_)
    have hf := lt1_n e1 hf
    refine lv_istore (lv' := [(5, .int x5_8), (0, .ref x0), (1, .ref x1), (2, .int x2), (4, .int x4)]) hx hb dX4_readProduct_68 hl (by decide) rfl (fun ls hl => ?_)
    refine lv_iload hx hb dX4_readProduct_70 (lv_at hl 0 rfl) ?_
    refine lv_iconst (v := (-1)) hx hb dX4_readProduct_72 (by decide) ?_
    refine lv_icmp_ne (tgt := 78) hx hb dX4_readProduct_73 (by decide) (fun q9 => ?_) (fun q9 => ?_)
    · have hf := ifn hf q9
      refine lv_aload_n hx hb dX4_readProduct_78 rfl (lv_at hl 1 rfl) ?_
      refine lv_aload_n hx hb dX4_readProduct_79 rfl (lv_at hl 2 rfl) ?_
      refine lv_iload_n hx hb dX4_readProduct_80 rfl (lv_at hl 3 rfl) ?_
      obtain ⟨u0, h0, hf⟩ := bs hf
      obtain ⟨_, hrc⟩ := isO_n h0
      obtain ⟨v10, m11, h1, hf⟩ := bs2 hf
      refine am_endi hS (am_runV (As := [.ref x1, .int x2]) X (hml.trans hl.1.symm) hS (cX4_readUnit_o_ok (l := l) (E := E) hSc h1) mv_X4_60 hrc rfl ⟨by omega, by omega⟩ ⟨Nat.zero_le _, Nat.zero_le _⟩ rfl rfl (Nat.le_of_ble_eq_true rfl) dX4_readProduct_81) (fun H locs hS => ?_)
      refine lv_if_eq (tgt := 100) hx hb dX4_readProduct_84 (by decide) (fun q12 => ?_) (fun q12 => ?_)
      · have hf := ifp hf q12
        exact hj100 x4 m11 H locs ls hf hS (lv_sub hl [1, 2, 3, 4] rfl)
      · have hf := ifn hf q12
        refine lv_aload_n hx hb dX4_readProduct_87 rfl (lv_at hl 1 rfl) ?_
        refine lv_iload hx hb dX4_readProduct_88 (lv_at hl 0 rfl) ?_
        obtain ⟨u0, h0, hf⟩ := bs hf
        obtain ⟨_, hrc⟩ := isO_n h0
        obtain ⟨v13, m14, h1, hf⟩ := bs2 hf
        refine am_endi hS (am_runV (As := [.int x5_8]) X (hml.trans hl.1.symm) hS (cX4_lay_ok (l := l) (E := E) h1) mv_X4_56 hrc rfl ⟨Nat.le_trans (by decide) hRa, Nat.le_trans (by decide) hRb⟩ ⟨Nat.zero_le _, Nat.zero_le _⟩ rfl rfl (Nat.le_of_ble_eq_true rfl) dX4_readProduct_90) (fun H locs hS => ?_)
        refine lv_if_eq (tgt := 100) hx hb dX4_readProduct_93 (by decide) (fun q15 => ?_) (fun q15 => ?_)
        · have hf := ifp hf q15
          exact hj100 x4 m14 H locs ls hf hS (lv_sub hl [1, 2, 3, 4] rfl)
        · have hf := ifn hf q15
          refine lv_iconst (v := 1) hx hb dX4_readProduct_96 (by decide) ?_
          refine lv_goto (tgt := 101) hx hb dX4_readProduct_97 (by decide) ?_
          exact hj101 x4 1 m14 H locs ls hf hS (lv_sub hl [1, 2, 3, 4] rfl)
    · have hf := ifp hf q9
      obtain rfl : Sum.inl mm = ex10 := hyR10 _ (Option.some.inj hf).symm
      exact hj76 mm H locs ls hk10 hS (lv_sub hl [] rfl)
  refine lv_iload hx hb dX4_readProduct_10 (lv_at hl 4 rfl) ?_
  refine lv_sipush (v := 150) hx hb dX4_readProduct_12 (by decide) ?_
  refine lv_icmp_ge (tgt := 108) hx hb dX4_readProduct_15 (by decide) (fun q16 => ?_) (fun q16 => ?_)
  · have hf := ifp hf q16
    obtain rfl : Sum.inr ((x3, mm)) = ex10 := hyR10 _ (Option.some.inj hf).symm
    exact hj108 x3 mm H locs ls hk10 hS (lv_sub hl [3] rfl)
  · have hf := ifn hf q16
    refine lv_iload_n hx hb dX4_readProduct_18 rfl (lv_at hl 3 rfl) ?_
    refine lv_if_eq (tgt := 108) hx hb dX4_readProduct_19 (by decide) (fun q17 => ?_) (fun q17 => ?_)
    · have hf := ifp hf q17
      obtain rfl : Sum.inr ((x3, mm)) = ex10 := hyR10 _ (Option.some.inj hf).symm
      exact hj108 x3 mm H locs ls hk10 hS (lv_sub hl [3] rfl)
    · have hf := ifn hf q17
      refine lv_aload_n hx hb dX4_readProduct_22 rfl (lv_at hl 1 rfl) ?_
      refine lv_bipush (v := 42) hx hb dX4_readProduct_23 (by decide) ?_
      obtain ⟨u0, h0, hf⟩ := bs hf
      obtain ⟨_, hrc⟩ := isO_n h0
      obtain ⟨v18, m19, h1, hf⟩ := bs2 hf
      refine am_endi hS (am_runV (As := [.int 42]) X (hml.trans hl.1.symm) hS (cX8_takes_ok (l := l) (E := E) h1) mv_X4_52 hrc rfl ⟨Nat.le_trans (by decide) hRa, Nat.le_trans (by decide) hRb⟩ ⟨Nat.zero_le _, Nat.zero_le _⟩ rfl rfl (Nat.le_of_ble_eq_true rfl) dX4_readProduct_25) (fun H locs hS => ?_)
      refine lv_if_eq (tgt := 37) hx hb dX4_readProduct_28 (by decide) (fun q20 => ?_) (fun q20 => ?_)
      · have hf := ifp hf q20
        refine lv_aload_n hx hb dX4_readProduct_37 rfl (lv_at hl 1 rfl) ?_
        refine lv_bipush (v := 47) hx hb dX4_readProduct_38 (by decide) ?_
        obtain ⟨u0, h0, hf⟩ := bs hf
        obtain ⟨_, hrc⟩ := isO_n h0
        obtain ⟨v21, m22, h1, hf⟩ := bs2 hf
        refine am_endi hS (am_runV (As := [.int 47]) X (hml.trans hl.1.symm) hS (cX8_takes_ok (l := l) (E := E) h1) mv_X4_52 hrc rfl ⟨Nat.le_trans (by decide) hRa, Nat.le_trans (by decide) hRb⟩ ⟨Nat.zero_le _, Nat.zero_le _⟩ rfl rfl (Nat.le_of_ble_eq_true rfl) dX4_readProduct_40) (fun H locs hS => ?_)
        refine lv_if_eq (tgt := 52) hx hb dX4_readProduct_43 (by decide) (fun q23 => ?_) (fun q23 => ?_)
        · have hf := ifp hf q23
          refine lv_aload_n hx hb dX4_readProduct_52 rfl (lv_at hl 1 rfl) ?_
          refine lv_bipush (v := 37) hx hb dX4_readProduct_53 (by decide) ?_
          obtain ⟨u0, h0, hf⟩ := bs hf
          obtain ⟨_, hrc⟩ := isO_n h0
          obtain ⟨v24, m25, h1, hf⟩ := bs2 hf
          refine am_endi hS (am_runV (As := [.int 37]) X (hml.trans hl.1.symm) hS (cX8_takes_ok (l := l) (E := E) h1) mv_X4_52 hrc rfl ⟨Nat.le_trans (by decide) hRa, Nat.le_trans (by decide) hRb⟩ ⟨Nat.zero_le _, Nat.zero_le _⟩ rfl rfl (Nat.le_of_ble_eq_true rfl) dX4_readProduct_55) (fun H locs hS => ?_)
          refine lv_if_eq (tgt := 67) hx hb dX4_readProduct_58 (by decide) (fun q26 => ?_) (fun q26 => ?_)
          · have hf := ifp hf q26
            refine lv_iconst (v := (-1)) hx hb dX4_readProduct_67 (by decide) ?_
            exact hj68 x4 (-1) m25 H locs ls hf hS (lv_sub hl [0, 1, 2, 4] rfl)
          · have hf := ifn hf q26
            refine lv_sipush (v := 1104) hx hb dX4_readProduct_61 (by decide) ?_
            refine lv_goto (tgt := 68) hx hb dX4_readProduct_64 (by decide) ?_
            exact hj68 x4 1104 m25 H locs ls hf hS (lv_sub hl [0, 1, 2, 4] rfl)
        · have hf := ifn hf q23
          refine lv_sipush (v := 1103) hx hb dX4_readProduct_46 (by decide) ?_
          refine lv_goto (tgt := 68) hx hb dX4_readProduct_49 (by decide) ?_
          exact hj68 x4 1103 m22 H locs ls hf hS (lv_sub hl [0, 1, 2, 4] rfl)
      · have hf := ifn hf q20
        refine lv_sipush (v := 1102) hx hb dX4_readProduct_31 (by decide) ?_
        refine lv_goto (tgt := 68) hx hb dX4_readProduct_34 (by decide) ?_
        exact hj68 x4 1102 m19 H locs ls hf hS (lv_sub hl [0, 1, 2, 4] rfl)
set_option maxRecDepth 100000 in
theorem cX4_readProduct_o_ok {l : Launch} {E : Ev} {S : Nat → Nat → Int32 → Mem → Option (Int32 × Mem)} {fr0 lo0 : Nat} (hSc : ∀ {z0 : Nat} {z1 : Nat} {z2 : Int32} {m0 : Mem} {rz : Int32} {mz : Mem}, S z0 z1 z2 m0 = some (rz, mz) → CtI l yX4_readSum cX4_readSum 6 (some .boolean) fr0 lo0 E [.ref z0, .ref z1, .int z2] m0 rz mz) {x0 : Nat} {x1 : Nat} {x2 : Int32} {mm : Mem} {r : Int32} {mm1 : Mem} (hf : fX4_readProduct_o (eS E) S x0 x1 x2 mm = some (r, mm1)) : CtI l yX4_readProduct cX4_readProduct 6 (some .boolean) (fr0 + 7) (lo0 + 158) E [.ref x0, .ref x1, .int x2] mm r mm1 := by
  refine Met.ofW (cc := cX4_readProduct) (maxL := 6) (ret := (some .boolean)) (by decide) rfl ?_
  intro p e s m args below meth c s₁ B hml hv
  obtain ⟨rfl, X, hS, hr, hlocks⟩ := am_in B hv
  refine am_entry (Nat.le_of_ble_eq_true rfl) (fun ls hl => ?_)
  exact wX4_readProduct hSc X hml ⟨Nat.le_refl _, Nat.le_refl _⟩ hf (fun pc H locs ls hn hd hS => am_ri X hS hr hn hd hlocks) _ _ ls hS hl
set_option maxHeartbeats 4000000 in
set_option maxRecDepth 100000 in
theorem wX4_readSum {p : Program} {l : Launch} {e : Env} {R : Room} {s : State} {m : MethodId} {args : Array Value} {below : List Frame} {meth : Method} {c : Code} {Q : State → Prop} {E : Ev} {S : Nat → Nat → Int32 → Mem → Option (Int32 × Mem)} {fr0 lo0 : Nat} (hSc : ∀ {z0 : Nat} {z1 : Nat} {z2 : Int32} {m0 : Mem} {rz : Int32} {mz : Mem}, S z0 z1 z2 m0 = some (rz, mz) → CtI l yX4_readSum cX4_readSum 6 (some .boolean) fr0 lo0 E [.ref z0, .ref z1, .int z2] m0 rz mz) (X : Cx p s m args c cX4_readSum RX4 E) (hml : c.maxLocals = 6) (hR : fr0 + 8 ≤ R.frames ∧ lo0 + 183 ≤ R.locals) {x0 : Nat} {x1 : Nat} {x2 : Int32} {mm : Mem} {r : Int32} {mm1 : Mem} (hf : fX4_readSum_o (eS E) S x0 x1 x2 mm = some (r, mm1)) (hret : ∀ (pc : Nat) (H : Heap) (locs : List Loc) (ls : Array Slot), narrow .boolean (.int r) = .int r → decode cX4_readSum pc = .ok (.ireturn, 1) → wS E s mm1 H locs → W p l e R s m args below meth c H locs 0 0 Q (F0 m pc ls [.int r])) : ∀ (H : Heap) (locs : List Loc) (ls : Array Slot), wS E s mm H locs → lv_has ls 6 [(0, .ref x0), (1, .ref x1), (2, .int x2)] → W p l e R s m args below meth c H locs 0 0 Q (F0 m 0 ls []) := by
  have hx := X.1
  have hb := X.2.1
  have hR1 := hR.1
  have hR2 := hR.2
  have hRa : 8 ≤ R.frames := by omega
  have hRb : 183 ≤ R.locals := by omega
  unfold fX4_readSum_o at hf
  have hj93 : ∀ (x3 : Int32) (mm : Mem) (H : Heap) (locs : List Loc) (ls : Array Slot), fX4_readSum_j93 (eS E) S x3 mm = some (r, mm1) → wS E s mm H locs → lv_has ls 6 [(3, .int x3)] → W p l e R s m args below meth c H locs 0 0 Q (F0 m 93 ls []) := by
    intro x3 mm H locs ls hf hS hl
    unfold fX4_readSum_j93 at hf
    refine lv_iload_n hx hb dX4_readSum_93 rfl (lv_at hl 0 rfl) ?_
    obtain ⟨v1, h1, hf⟩ := bs hf
    obtain ⟨rfl, h2⟩ := ckZ_n h1
    cases hf
    exact hret _ _ _ _ h2 dX4_readSum_94 hS
  have hj61 : ∀ (mm : Mem) (H : Heap) (locs : List Loc) (ls : Array Slot), fX4_readSum_j61 (eS E) S mm = some (r, mm1) → wS E s mm H locs → lv_has ls 6 [] → W p l e R s m args below meth c H locs 0 0 Q (F0 m 61 ls []) := by
    intro mm H locs ls hf hS hl
    unfold fX4_readSum_j61 at hf
    refine lv_iconst (v := 1) hx hb dX4_readSum_61 (by decide) ?_
    cases hf
    exact hret _ _ _ _ rfl dX4_readSum_62 hS
  intro H locs ls hS hl
  refine lv_aload_n hx hb dX4_readSum_0 rfl (lv_at hl 0 rfl) ?_
  refine lv_aload_n hx hb dX4_readSum_1 rfl (lv_at hl 1 rfl) ?_
  refine lv_iload_n hx hb dX4_readSum_2 rfl (lv_at hl 2 rfl) ?_
  obtain ⟨u0, h0, hf⟩ := bs hf
  obtain ⟨_, hrc⟩ := isO_n h0
  obtain ⟨v2, m3, h1, hf⟩ := bs2 hf
  refine am_endi hS (am_runV (As := [.ref x1, .int x2]) X (hml.trans hl.1.symm) hS (cX4_readProduct_o_ok (l := l) (E := E) hSc h1) mv_X4_49 hrc rfl ⟨by omega, by omega⟩ ⟨Nat.zero_le _, Nat.zero_le _⟩ rfl rfl (Nat.le_of_ble_eq_true rfl) dX4_readSum_3) (fun H locs hS => ?_)
  refine lv_topi (fun x3_4 e1 => ?_)
  have hf := lt1_n e1 hf
  refine lv_istore_n (lv' := [(3, .int x3_4), (0, .ref x0), (1, .ref x1), (2, .int x2)]) hx hb dX4_readSum_6 rfl hl (by decide) rfl (fun ls hl => ?_)
  refine lv_iconst (v := 0) hx hb dX4_readSum_7 (by decide) ?_
  refine lv_topi (fun x4_5 e1 => ?_)
  have hf := lt1_n e1 hf
  refine lv_istore (lv' := [(4, .int x4_5), (3, .int x3_4), (0, .ref x0), (1, .ref x1), (2, .int x2)]) hx hb dX4_readSum_8 hl (by decide) rfl (fun ls hl => ?_)
  obtain ⟨ex10, hl10, hk10⟩ := bs hf
  refine loop_W (P := fun st => ∀ (H : Heap) (locs : List Loc) (ls : Array Slot), wS E s st.2.2 H locs → lv_has ls 6 [(0, .ref x0), (1, .ref x1), (2, .int x2), (3, .int st.1), (4, .int st.2.1)] → W p l e R s m args below meth c H locs 0 0 Q (F0 m 10 ls [])) (ex := ex10) ?_ FU _ hl10 H locs ls hS (lv_sub hl [2, 3, 4, 1, 0] rfl)
  intro st y10 hf hyL10 hyR10 H locs ls hS hl
  obtain ⟨x3, x4, mm⟩ := st
  have hf : fX4_readSum_b10 (eS E) S x0 x1 x2 x3 x4 mm = some y10 := hf
  have hS : wS E s mm H locs := hS
  have hl : lv_has ls 6 [(0, .ref x0), (1, .ref x1), (2, .int x2), (3, .int x3), (4, .int x4)] := hl
  unfold fX4_readSum_b10 at hf
  have hj86 : ∀ (x4 : Int32) (s0 : Int32) (mm : Mem) (H : Heap) (locs : List Loc) (ls : Array Slot), fX4_readSum_j86 (eS E) S x0 x1 x2 x4 s0 mm = some y10 → wS E s mm H locs → lv_has ls 6 [(0, .ref x0), (1, .ref x1), (2, .int x2), (4, .int x4)] → W p l e R s m args below meth c H locs 0 0 Q (F0 m 86 ls [.int s0]) := by
    intro x4 s0 mm H locs ls hf hS hl
    unfold fX4_readSum_j86 at hf
    refine lv_topi (fun x3_6 e1 => ?_)
    have hf := lt1_n e1 hf
    refine lv_istore_n (lv' := [(3, .int x3_6), (0, .ref x0), (1, .ref x1), (2, .int x2), (4, .int x4)]) hx hb dX4_readSum_86 rfl hl (by decide) rfl (fun ls hl => ?_)
    obtain ⟨x4_7, e1⟩ : ∃ z : Int32, z = x4 + 1 := ⟨_, rfl⟩
    have hf := lt1_n e1 hf
    refine lv_iinc (v := x4_7) (lv' := [(4, .int x4_7), (3, .int x3_6), (0, .ref x0), (1, .ref x1), (2, .int x2)]) hx hb dX4_readSum_87 hl (k := 4) rfl (by rw [e1]; rfl) (by decide) rfl (fun ls hl => ?_)
    refine lv_goto (tgt := 10) hx hb dX4_readSum_90 (by decide) ?_
    exact hyL10 _ (Option.some.inj hf).symm H locs ls hS (lv_sub hl [2, 3, 4, 1, 0] rfl)
  have hj85 : ∀ (x4 : Int32) (mm : Mem) (H : Heap) (locs : List Loc) (ls : Array Slot), fX4_readSum_j85 (eS E) S x0 x1 x2 x4 mm = some y10 → wS E s mm H locs → lv_has ls 6 [(0, .ref x0), (1, .ref x1), (2, .int x2), (4, .int x4)] → W p l e R s m args below meth c H locs 0 0 Q (F0 m 85 ls []) := by
    intro x4 mm H locs ls hf hS hl
    unfold fX4_readSum_j85 at hf
    refine lv_iconst (v := 0) hx hb dX4_readSum_85 (by decide) ?_
    exact hj86 x4 0 mm H locs ls hf hS hl
  have hj53 : ∀ (x4 : Int32) (s0 : Int32) (mm : Mem) (H : Heap) (locs : List Loc) (ls : Array Slot), fX4_readSum_j53 (eS E) S x0 x1 x2 x4 s0 mm = some y10 → wS E s mm H locs → lv_has ls 6 [(0, .ref x0), (1, .ref x1), (2, .int x2), (4, .int x4)] → W p l e R s m args below meth c H locs 0 0 Q (F0 m 53 ls [.int s0]) := by
    intro x4 s0 mm H locs ls hf hS hl
    unfold fX4_readSum_j53 at hf
    refine lv_topi (fun x5_8 e1 => ?_)
    have hf := lt1_n e1 hf
    refine lv_istore (lv' := [(5, .int x5_8), (0, .ref x0), (1, .ref x1), (2, .int x2), (4, .int x4)]) hx hb dX4_readSum_53 hl (by decide) rfl (fun ls hl => ?_)
    refine lv_iload hx hb dX4_readSum_55 (lv_at hl 0 rfl) ?_
    refine lv_iconst (v := (-1)) hx hb dX4_readSum_57 (by decide) ?_
    refine lv_icmp_ne (tgt := 63) hx hb dX4_readSum_58 (by decide) (fun q9 => ?_) (fun q9 => ?_)
    · have hf := ifn hf q9
      refine lv_aload_n hx hb dX4_readSum_63 rfl (lv_at hl 1 rfl) ?_
      refine lv_aload_n hx hb dX4_readSum_64 rfl (lv_at hl 2 rfl) ?_
      refine lv_iload_n hx hb dX4_readSum_65 rfl (lv_at hl 3 rfl) ?_
      obtain ⟨u0, h0, hf⟩ := bs hf
      obtain ⟨_, hrc⟩ := isO_n h0
      obtain ⟨v10, m11, h1, hf⟩ := bs2 hf
      refine am_endi hS (am_runV (As := [.ref x1, .int x2]) X (hml.trans hl.1.symm) hS (cX4_readProduct_o_ok (l := l) (E := E) hSc h1) mv_X4_49 hrc rfl ⟨by omega, by omega⟩ ⟨Nat.zero_le _, Nat.zero_le _⟩ rfl rfl (Nat.le_of_ble_eq_true rfl) dX4_readSum_66) (fun H locs hS => ?_)
      refine lv_if_eq (tgt := 85) hx hb dX4_readSum_69 (by decide) (fun q12 => ?_) (fun q12 => ?_)
      · have hf := ifp hf q12
        exact hj85 x4 m11 H locs ls hf hS (lv_sub hl [1, 2, 3, 4] rfl)
      · have hf := ifn hf q12
        refine lv_aload_n hx hb dX4_readSum_72 rfl (lv_at hl 1 rfl) ?_
        refine lv_iload hx hb dX4_readSum_73 (lv_at hl 0 rfl) ?_
        obtain ⟨u0, h0, hf⟩ := bs hf
        obtain ⟨_, hrc⟩ := isO_n h0
        obtain ⟨v13, m14, h1, hf⟩ := bs2 hf
        refine am_endi hS (am_runV (As := [.int x5_8]) X (hml.trans hl.1.symm) hS (cX4_lay_ok (l := l) (E := E) h1) mv_X4_56 hrc rfl ⟨Nat.le_trans (by decide) hRa, Nat.le_trans (by decide) hRb⟩ ⟨Nat.zero_le _, Nat.zero_le _⟩ rfl rfl (Nat.le_of_ble_eq_true rfl) dX4_readSum_75) (fun H locs hS => ?_)
        refine lv_if_eq (tgt := 85) hx hb dX4_readSum_78 (by decide) (fun q15 => ?_) (fun q15 => ?_)
        · have hf := ifp hf q15
          exact hj85 x4 m14 H locs ls hf hS (lv_sub hl [1, 2, 3, 4] rfl)
        · have hf := ifn hf q15
          refine lv_iconst (v := 1) hx hb dX4_readSum_81 (by decide) ?_
          refine lv_goto (tgt := 86) hx hb dX4_readSum_82 (by decide) ?_
          exact hj86 x4 1 m14 H locs ls hf hS (lv_sub hl [1, 2, 3, 4] rfl)
    · have hf := ifp hf q9
      obtain rfl : Sum.inl mm = ex10 := hyR10 _ (Option.some.inj hf).symm
      exact hj61 mm H locs ls hk10 hS (lv_sub hl [] rfl)
  refine lv_iload hx hb dX4_readSum_10 (lv_at hl 4 rfl) ?_
  refine lv_sipush (v := 150) hx hb dX4_readSum_12 (by decide) ?_
  refine lv_icmp_ge (tgt := 93) hx hb dX4_readSum_15 (by decide) (fun q16 => ?_) (fun q16 => ?_)
  · have hf := ifp hf q16
    obtain rfl : Sum.inr ((x3, mm)) = ex10 := hyR10 _ (Option.some.inj hf).symm
    exact hj93 x3 mm H locs ls hk10 hS (lv_sub hl [3] rfl)
  · have hf := ifn hf q16
    refine lv_iload_n hx hb dX4_readSum_18 rfl (lv_at hl 3 rfl) ?_
    refine lv_if_eq (tgt := 93) hx hb dX4_readSum_19 (by decide) (fun q17 => ?_) (fun q17 => ?_)
    · have hf := ifp hf q17
      obtain rfl : Sum.inr ((x3, mm)) = ex10 := hyR10 _ (Option.some.inj hf).symm
      exact hj93 x3 mm H locs ls hk10 hS (lv_sub hl [3] rfl)
    · have hf := ifn hf q17
      refine lv_aload_n hx hb dX4_readSum_22 rfl (lv_at hl 1 rfl) ?_
      refine lv_bipush (v := 43) hx hb dX4_readSum_23 (by decide) ?_
      obtain ⟨u0, h0, hf⟩ := bs hf
      obtain ⟨_, hrc⟩ := isO_n h0
      obtain ⟨v18, m19, h1, hf⟩ := bs2 hf
      refine am_endi hS (am_runV (As := [.int 43]) X (hml.trans hl.1.symm) hS (cX8_takes_ok (l := l) (E := E) h1) mv_X4_52 hrc rfl ⟨Nat.le_trans (by decide) hRa, Nat.le_trans (by decide) hRb⟩ ⟨Nat.zero_le _, Nat.zero_le _⟩ rfl rfl (Nat.le_of_ble_eq_true rfl) dX4_readSum_25) (fun H locs hS => ?_)
      refine lv_if_eq (tgt := 37) hx hb dX4_readSum_28 (by decide) (fun q20 => ?_) (fun q20 => ?_)
      · have hf := ifp hf q20
        refine lv_aload_n hx hb dX4_readSum_37 rfl (lv_at hl 1 rfl) ?_
        refine lv_bipush (v := 45) hx hb dX4_readSum_38 (by decide) ?_
        obtain ⟨u0, h0, hf⟩ := bs hf
        obtain ⟨_, hrc⟩ := isO_n h0
        obtain ⟨v21, m22, h1, hf⟩ := bs2 hf
        refine am_endi hS (am_runV (As := [.int 45]) X (hml.trans hl.1.symm) hS (cX8_takes_ok (l := l) (E := E) h1) mv_X4_52 hrc rfl ⟨Nat.le_trans (by decide) hRa, Nat.le_trans (by decide) hRb⟩ ⟨Nat.zero_le _, Nat.zero_le _⟩ rfl rfl (Nat.le_of_ble_eq_true rfl) dX4_readSum_40) (fun H locs hS => ?_)
        refine lv_if_eq (tgt := 52) hx hb dX4_readSum_43 (by decide) (fun q23 => ?_) (fun q23 => ?_)
        · have hf := ifp hf q23
          refine lv_iconst (v := (-1)) hx hb dX4_readSum_52 (by decide) ?_
          exact hj53 x4 (-1) m22 H locs ls hf hS (lv_sub hl [0, 1, 2, 4] rfl)
        · have hf := ifn hf q23
          refine lv_sipush (v := 1101) hx hb dX4_readSum_46 (by decide) ?_
          refine lv_goto (tgt := 53) hx hb dX4_readSum_49 (by decide) ?_
          exact hj53 x4 1101 m22 H locs ls hf hS (lv_sub hl [0, 1, 2, 4] rfl)
      · have hf := ifn hf q20
        refine lv_sipush (v := 1100) hx hb dX4_readSum_31 (by decide) ?_
        refine lv_goto (tgt := 53) hx hb dX4_readSum_34 (by decide) ?_
        exact hj53 x4 1100 m19 H locs ls hf hS (lv_sub hl [0, 1, 2, 4] rfl)
set_option maxRecDepth 100000 in
theorem cX4_readSum_o_ok {l : Launch} {E : Ev} {S : Nat → Nat → Int32 → Mem → Option (Int32 × Mem)} {fr0 lo0 : Nat} (hSc : ∀ {z0 : Nat} {z1 : Nat} {z2 : Int32} {m0 : Mem} {rz : Int32} {mz : Mem}, S z0 z1 z2 m0 = some (rz, mz) → CtI l yX4_readSum cX4_readSum 6 (some .boolean) fr0 lo0 E [.ref z0, .ref z1, .int z2] m0 rz mz) {x0 : Nat} {x1 : Nat} {x2 : Int32} {mm : Mem} {r : Int32} {mm1 : Mem} (hf : fX4_readSum_o (eS E) S x0 x1 x2 mm = some (r, mm1)) : CtI l yX4_readSum cX4_readSum 6 (some .boolean) (fr0 + 8) (lo0 + 183) E [.ref x0, .ref x1, .int x2] mm r mm1 := by
  refine Met.ofW (cc := cX4_readSum) (maxL := 6) (ret := (some .boolean)) (by decide) rfl ?_
  intro p e s m args below meth c s₁ B hml hv
  obtain ⟨rfl, X, hS, hr, hlocks⟩ := am_in B hv
  refine am_entry (Nat.le_of_ble_eq_true rfl) (fun ls hl => ?_)
  exact wX4_readSum hSc X hml ⟨Nat.le_refl _, Nat.le_refl _⟩ hf (fun pc H locs ls hn hd hS => am_ri X hS hr hn hd hlocks) _ _ ls hS hl
theorem cX4_readSum_ok {l : Launch} {E : Ev} : ∀ (d : Nat) {x0 : Nat} {x1 : Nat} {x2 : Int32} {mm : Mem} {r : Int32} {mm1 : Mem}, fX4_readSum (eS E) d x0 x1 x2 mm = some (r, mm1) → CtI l yX4_readSum cX4_readSum 6 (some .boolean) (8 * d) (183 * d) E [.ref x0, .ref x1, .int x2] mm r mm1 := by
  intro d
  induction d with
  | zero => intro _ _ _ _ _ _ h; cases h
  | succ d ih =>
    intro _ _ _ _ _ _ hf
    exact cX4_readSum_o_ok (S := fX4_readSum (eS E) d) (fr0 := 8 * d) (lo0 := 183 * d) (fun h => ih h) hf
set_option maxHeartbeats 4000000 in
set_option maxRecDepth 100000 in
theorem wX4_read {p : Program} {l : Launch} {e : Env} {R : Room} {s : State} {m : MethodId} {args : Array Value} {below : List Frame} {meth : Method} {c : Code} {Q : State → Prop} {E : Ev} (X : Cx p s m args c cX4_read RX4 E) (hml : c.maxLocals = 2) (hR : 81 ≤ R.frames ∧ 1855 ≤ R.locals) {x0 : Nat} {x1 : Nat} {mm : Mem} {r : Int32} {mm1 : Mem} (hf : fX4_read (eS E) x0 x1 mm = some (r, mm1)) (hret : ∀ (pc : Nat) (H : Heap) (locs : List Loc) (ls : Array Slot), narrow .boolean (.int r) = .int r → decode cX4_read pc = .ok (.ireturn, 1) → wS E s mm1 H locs → W p l e R s m args below meth c H locs 0 0 Q (F0 m pc ls [.int r])) : ∀ (H : Heap) (locs : List Loc) (ls : Array Slot), wS E s mm H locs → lv_has ls 2 [(0, .ref x0), (1, .ref x1)] → W p l e R s m args below meth c H locs 0 0 Q (F0 m 0 ls []) := by
  have hx := X.1
  have hb := X.2.1
  have hR1 := hR.1
  have hR2 := hR.2
  have hRa : 81 ≤ R.frames := by omega
  have hRb : 1855 ≤ R.locals := by omega
  unfold fX4_read at hf
  have hj38 : ∀ (s0 : Int32) (mm : Mem) (H : Heap) (locs : List Loc) (ls : Array Slot), fX4_read_j38 (eS E) s0 mm = some (r, mm1) → wS E s mm H locs → lv_has ls 2 [] → W p l e R s m args below meth c H locs 0 0 Q (F0 m 38 ls [.int s0]) := by
    intro s0 mm H locs ls hf hS hl
    unfold fX4_read_j38 at hf
    obtain ⟨v1, h1, hf⟩ := bs hf
    obtain ⟨rfl, h2⟩ := ckZ_n h1
    cases hf
    exact hret _ _ _ _ h2 dX4_read_38 hS
  have hj37 : ∀ (mm : Mem) (H : Heap) (locs : List Loc) (ls : Array Slot), fX4_read_j37 (eS E) mm = some (r, mm1) → wS E s mm H locs → lv_has ls 2 [] → W p l e R s m args below meth c H locs 0 0 Q (F0 m 37 ls []) := by
    intro mm H locs ls hf hS hl
    unfold fX4_read_j37 at hf
    refine lv_iconst (v := 0) hx hb dX4_read_37 (by decide) ?_
    exact hj38 0 mm H locs ls hf hS hl
  have hj33 : ∀ (mm : Mem) (H : Heap) (locs : List Loc) (ls : Array Slot), fX4_read_j33 (eS E) mm = some (r, mm1) → wS E s mm H locs → lv_has ls 2 [] → W p l e R s m args below meth c H locs 0 0 Q (F0 m 33 ls []) := by
    intro mm H locs ls hf hS hl
    unfold fX4_read_j33 at hf
    refine lv_iconst (v := 1) hx hb dX4_read_33 (by decide) ?_
    refine lv_goto (tgt := 38) hx hb dX4_read_34 (by decide) ?_
    exact hj38 1 mm H locs ls hf hS hl
  intro H locs ls hS hl
  refine lv_aload_n hx hb dX4_read_0 rfl (lv_at hl 0 rfl) ?_
  refine lv_iconst (v := 0) hx hb dX4_read_1 (by decide) ?_
  obtain ⟨m2, h1, hf⟩ := bs hf
  refine am_pi X hS fp_X4_21 rfl h1 dX4_read_2 (fun H locs hS => ?_)
  refine lv_aload_n hx hb dX4_read_5 rfl (lv_at hl 0 rfl) ?_
  refine lv_aload_n hx hb dX4_read_6 rfl (lv_at hl 1 rfl) ?_
  refine lv_iconst (v := 0) hx hb dX4_read_7 (by decide) ?_
  obtain ⟨u0, h0, hf⟩ := bs hf
  obtain ⟨_, hrc⟩ := isO_n h0
  obtain ⟨v3, m4, h1, hf⟩ := bs2 hf
  refine am_endi hS (am_runV (As := [.ref x1, .int 0]) X (hml.trans hl.1.symm) hS (cX4_readSum_ok (l := l) (E := E) DP h1) mv_X4_31 hrc rfl ⟨Nat.le_trans (by decide) hRa, Nat.le_trans (by decide) hRb⟩ ⟨Nat.zero_le _, Nat.zero_le _⟩ rfl rfl (Nat.le_of_ble_eq_true rfl) dX4_read_8) (fun H locs hS => ?_)
  refine lv_if_eq (tgt := 37) hx hb dX4_read_11 (by decide) (fun q5 => ?_) (fun q5 => ?_)
  · have hf := ifp hf q5
    exact hj37 m4 H locs ls hf hS (lv_sub hl [] rfl)
  · have hf := ifn hf q5
    refine lv_aload_n hx hb dX4_read_14 rfl (lv_at hl 1 rfl) ?_
    obtain ⟨u0, h0, hf⟩ := bs hf
    obtain ⟨_, hrc⟩ := isO_n h0
    obtain ⟨v6, m7, h1, hf⟩ := bs2 hf
    refine am_endi hS (am_runV (As := []) X (hml.trans hl.1.symm) hS (cX8_ended_ok (l := l) (E := E) h1) mv_X4_35 hrc rfl ⟨Nat.le_trans (by decide) hRa, Nat.le_trans (by decide) hRb⟩ ⟨Nat.zero_le _, Nat.zero_le _⟩ rfl rfl (Nat.le_of_ble_eq_true rfl) dX4_read_15) (fun H locs hS => ?_)
    refine lv_if_ne (tgt := 33) hx hb dX4_read_18 (by decide) (fun q8 => ?_) (fun q8 => ?_)
    · have hf := ifn hf q8
      exact hj33 m7 H locs ls hf hS (lv_sub hl [] rfl)
    · have hf := ifp hf q8
      refine lv_aload_n hx hb dX4_read_21 rfl (lv_at hl 1 rfl) ?_
      refine lv_iconst (v := 1) hx hb dX4_read_22 (by decide) ?_
      refine lv_aload_n hx hb dX4_read_23 rfl (lv_at hl 1 rfl) ?_
      obtain ⟨u0, h0, hf⟩ := bs hf
      obtain ⟨_, hrc⟩ := isO_n h0
      obtain ⟨v9, m10, h1, hf⟩ := bs2 hf
      refine am_endi hS (am_runV (As := []) X (hml.trans hl.1.symm) hS (cX8_next_ok (l := l) (E := E) h1) mv_X4_41 hrc rfl ⟨Nat.le_trans (by decide) hRa, Nat.le_trans (by decide) hRb⟩ ⟨Nat.zero_le _, Nat.zero_le _⟩ rfl rfl (Nat.le_of_ble_eq_true rfl) dX4_read_24) (fun H locs hS => ?_)
      obtain ⟨u0, h0, hf⟩ := bs hf
      obtain ⟨_, hrc⟩ := isO_n h0
      obtain ⟨v11, m12, h1, hf⟩ := bs2 hf
      refine am_endi hS (am_runV (As := [.int 1, .int v9]) X (hml.trans hl.1.symm) hS (cX8_fail_ok (l := l) (E := E) h1) mv_X4_45 hrc rfl ⟨Nat.le_trans (by decide) hRa, Nat.le_trans (by decide) hRb⟩ ⟨Nat.zero_le _, Nat.zero_le _⟩ rfl rfl (Nat.le_of_ble_eq_true rfl) dX4_read_27) (fun H locs hS => ?_)
      refine lv_if_eq (tgt := 37) hx hb dX4_read_30 (by decide) (fun q13 => ?_) (fun q13 => ?_)
      · have hf := ifp hf q13
        exact hj37 m12 H locs ls hf hS (lv_sub hl [] rfl)
      · have hf := ifn hf q13
        exact hj33 m12 H locs ls hf hS (lv_sub hl [] rfl)
set_option maxRecDepth 100000 in
theorem cX4_read_ok {l : Launch} {E : Ev} {x0 : Nat} {x1 : Nat} {mm : Mem} {r : Int32} {mm1 : Mem} (hf : fX4_read (eS E) x0 x1 mm = some (r, mm1)) : CtI l yX4_read cX4_read 2 (some .boolean) (81) (1855) E [.ref x0, .ref x1] mm r mm1 := by
  refine Met.ofW (cc := cX4_read) (maxL := 2) (ret := (some .boolean)) (by decide) rfl ?_
  intro p e s m args below meth c s₁ B hml hv
  obtain ⟨rfl, X, hS, hr, hlocks⟩ := am_in B hv
  refine am_entry (Nat.le_of_ble_eq_true rfl) (fun ls hl => ?_)
  exact wX4_read X hml ⟨Nat.le_refl _, Nat.le_refl _⟩ hf (fun pc H locs ls hn hd hS => am_ri X hS hr hn hd hlocks) _ _ ls hS hl
set_option maxHeartbeats 4000000 in
set_option maxRecDepth 100000 in
theorem wX4_joined {p : Program} {l : Launch} {e : Env} {R : Room} {s : State} {m : MethodId} {args : Array Value} {below : List Frame} {meth : Method} {c : Code} {Q : State → Prop} {E : Ev} (X : Cx p s m args c cX4_joined RX4 E) (hml : c.maxLocals = 3) (hR : 0 ≤ R.frames ∧ 0 ≤ R.locals) {x0 : Int32} {x1 : Int32} {x2 : Int32} {mm : Mem} {r : Int32} (hf : fX4_joined x0 x1 x2 = some r) (hret : ∀ (pc : Nat) (H : Heap) (locs : List Loc) (ls : Array Slot), narrow .int (.int r) = .int r → decode cX4_joined pc = .ok (.ireturn, 1) → wS E s mm H locs → W p l e R s m args below meth c H locs 0 0 Q (F0 m pc ls [.int r])) : ∀ (H : Heap) (locs : List Loc) (ls : Array Slot), wS E s mm H locs → lv_has ls 3 [(0, .int x0), (1, .int x1), (2, .int x2)] → W p l e R s m args below meth c H locs 0 0 Q (F0 m 0 ls []) := by
  have hx := X.1
  have hb := X.2.1
  have hR1 := hR.1
  have hR2 := hR.2
  have hRa : 0 ≤ R.frames := by omega
  have hRb : 0 ≤ R.locals := by omega
  unfold fX4_joined at hf
  have hj63 : ∀ (s0 : Int32) (H : Heap) (locs : List Loc) (ls : Array Slot), fX4_joined_j63 s0 = some r → wS E s mm H locs → lv_has ls 3 [] → W p l e R s m args below meth c H locs 0 0 Q (F0 m 63 ls [.int s0]) := by
    intro s0 H locs ls hf hS hl
    unfold fX4_joined_j63 at hf
    cases hf
    exact hret _ _ _ _ rfl dX4_joined_63 hS
  have hj75 : ∀ (s0 : Int32) (H : Heap) (locs : List Loc) (ls : Array Slot), fX4_joined_j75 s0 = some r → wS E s mm H locs → lv_has ls 3 [] → W p l e R s m args below meth c H locs 0 0 Q (F0 m 75 ls [.int s0]) := by
    intro s0 H locs ls hf hS hl
    unfold fX4_joined_j75 at hf
    cases hf
    exact hret _ _ _ _ rfl dX4_joined_75 hS
  have hj86 : ∀ (s0 : Int32) (H : Heap) (locs : List Loc) (ls : Array Slot), fX4_joined_j86 s0 = some r → wS E s mm H locs → lv_has ls 3 [] → W p l e R s m args below meth c H locs 0 0 Q (F0 m 86 ls [.int s0]) := by
    intro s0 H locs ls hf hS hl
    unfold fX4_joined_j86 at hf
    cases hf
    exact hret _ _ _ _ rfl dX4_joined_86 hS
  have hj97 : ∀ (s0 : Int32) (H : Heap) (locs : List Loc) (ls : Array Slot), fX4_joined_j97 s0 = some r → wS E s mm H locs → lv_has ls 3 [] → W p l e R s m args below meth c H locs 0 0 Q (F0 m 97 ls [.int s0]) := by
    intro s0 H locs ls hf hS hl
    unfold fX4_joined_j97 at hf
    cases hf
    exact hret _ _ _ _ rfl dX4_joined_97 hS
  intro H locs ls hS hl
  refine lv_iload_n hx hb dX4_joined_0 rfl (lv_at hl 0 rfl) ?_
  by_cases q1 : x0 = 1100
  · have hf := ifp hf q1
    refine lv_tableIn (off := 39) (tgt := 40) hx hb dX4_joined_1 (by rw [q1]; decide) (by rw [q1]; decide) (by rw [q1]; decide) (by decide) ?_
    refine lv_iload_n hx hb dX4_joined_40 rfl (lv_at hl 1 rfl) ?_
    refine lv_iload_n hx hb dX4_joined_41 rfl (lv_at hl 2 rfl) ?_
    refine lv_iadd hx hb dX4_joined_42 ?_
    cases hf
    exact hret _ _ _ _ rfl dX4_joined_43 hS
  · have hf := ifn hf q1
    by_cases q2 : x0 = 1101
    · have hf := ifp hf q2
      refine lv_tableIn (off := 43) (tgt := 44) hx hb dX4_joined_1 (by rw [q2]; decide) (by rw [q2]; decide) (by rw [q2]; decide) (by decide) ?_
      refine lv_iload_n hx hb dX4_joined_44 rfl (lv_at hl 1 rfl) ?_
      refine lv_iload_n hx hb dX4_joined_45 rfl (lv_at hl 2 rfl) ?_
      refine lv_isub hx hb dX4_joined_46 ?_
      cases hf
      exact hret _ _ _ _ rfl dX4_joined_47 hS
    · have hf := ifn hf q2
      by_cases q3 : x0 = 1102
      · have hf := ifp hf q3
        refine lv_tableIn (off := 47) (tgt := 48) hx hb dX4_joined_1 (by rw [q3]; decide) (by rw [q3]; decide) (by rw [q3]; decide) (by decide) ?_
        refine lv_iload_n hx hb dX4_joined_48 rfl (lv_at hl 1 rfl) ?_
        refine lv_iload_n hx hb dX4_joined_49 rfl (lv_at hl 2 rfl) ?_
        refine lv_imul hx hb dX4_joined_50 ?_
        cases hf
        exact hret _ _ _ _ rfl dX4_joined_51 hS
      · have hf := ifn hf q3
        by_cases q6 : x0 = 1103
        · have hf := ifp hf q6
          refine lv_tableIn (off := 51) (tgt := 52) hx hb dX4_joined_1 (by rw [q6]; decide) (by rw [q6]; decide) (by rw [q6]; decide) (by decide) ?_
          refine lv_iload_n hx hb dX4_joined_52 rfl (lv_at hl 2 rfl) ?_
          refine lv_if_ne (tgt := 60) hx hb dX4_joined_53 (by decide) (fun q4 => ?_) (fun q4 => ?_)
          · have hf := ifn hf q4
            refine lv_iload_n hx hb dX4_joined_60 rfl (lv_at hl 1 rfl) ?_
            refine lv_iload_n hx hb dX4_joined_61 rfl (lv_at hl 2 rfl) ?_
            obtain ⟨v5, h1, hf⟩ := bs hf
            obtain ⟨h1, h2⟩ := dvI_n h1
            refine lv_idiv hx hb dX4_joined_62 h1 ?_
            rw [h2]
            exact hj63 v5 H locs ls hf hS (lv_sub hl [] rfl)
          · have hf := ifp hf q4
            refine lv_iconst (v := 0) hx hb dX4_joined_56 (by decide) ?_
            refine lv_goto (tgt := 63) hx hb dX4_joined_57 (by decide) ?_
            exact hj63 0 H locs ls hf hS (lv_sub hl [] rfl)
        · have hf := ifn hf q6
          by_cases q9 : x0 = 1104
          · have hf := ifp hf q9
            refine lv_tableIn (off := 63) (tgt := 64) hx hb dX4_joined_1 (by rw [q9]; decide) (by rw [q9]; decide) (by rw [q9]; decide) (by decide) ?_
            refine lv_iload_n hx hb dX4_joined_64 rfl (lv_at hl 2 rfl) ?_
            refine lv_if_ne (tgt := 72) hx hb dX4_joined_65 (by decide) (fun q7 => ?_) (fun q7 => ?_)
            · have hf := ifn hf q7
              refine lv_iload_n hx hb dX4_joined_72 rfl (lv_at hl 1 rfl) ?_
              refine lv_iload_n hx hb dX4_joined_73 rfl (lv_at hl 2 rfl) ?_
              obtain ⟨v8, h1, hf⟩ := bs hf
              obtain ⟨h1, h2⟩ := rmI_n h1
              refine lv_irem hx hb dX4_joined_74 h1 ?_
              rw [h2]
              exact hj75 v8 H locs ls hf hS (lv_sub hl [] rfl)
            · have hf := ifp hf q7
              refine lv_iconst (v := 0) hx hb dX4_joined_68 (by decide) ?_
              refine lv_goto (tgt := 75) hx hb dX4_joined_69 (by decide) ?_
              exact hj75 0 H locs ls hf hS (lv_sub hl [] rfl)
          · have hf := ifn hf q9
            by_cases q11 : x0 = 1105
            · have hf := ifp hf q11
              refine lv_tableIn (off := 75) (tgt := 76) hx hb dX4_joined_1 (by rw [q11]; decide) (by rw [q11]; decide) (by rw [q11]; decide) (by decide) ?_
              refine lv_iload_n hx hb dX4_joined_76 rfl (lv_at hl 1 rfl) ?_
              refine lv_iload_n hx hb dX4_joined_77 rfl (lv_at hl 2 rfl) ?_
              refine lv_icmp_ge (tgt := 85) hx hb dX4_joined_78 (by decide) (fun q10 => ?_) (fun q10 => ?_)
              · have hf := ifp hf q10
                refine lv_iload_n hx hb dX4_joined_85 rfl (lv_at hl 2 rfl) ?_
                exact hj86 x2 H locs ls hf hS (lv_sub hl [] rfl)
              · have hf := ifn hf q10
                refine lv_iload_n hx hb dX4_joined_81 rfl (lv_at hl 1 rfl) ?_
                refine lv_goto (tgt := 86) hx hb dX4_joined_82 (by decide) ?_
                exact hj86 x1 H locs ls hf hS (lv_sub hl [] rfl)
            · have hf := ifn hf q11
              refine lv_tableOut (tgt := 87) hx hb dX4_joined_1 (ts_out (x := x0) (lo := 1100) (n := 6) (by decide) (by decide) (fun j hj => match j, hj with | 0, _ => fun h => q1 (h.trans (by decide))  | 1, _ => fun h => q2 (h.trans (by decide))  | 2, _ => fun h => q3 (h.trans (by decide))  | 3, _ => fun h => q6 (h.trans (by decide))  | 4, _ => fun h => q9 (h.trans (by decide))  | 5, _ => fun h => q11 (h.trans (by decide)) | j + 6, hj => absurd hj (by omega))) (by decide) ?_
              refine lv_iload_n hx hb dX4_joined_87 rfl (lv_at hl 1 rfl) ?_
              refine lv_iload_n hx hb dX4_joined_88 rfl (lv_at hl 2 rfl) ?_
              refine lv_icmp_le (tgt := 96) hx hb dX4_joined_89 (by decide) (fun q12 => ?_) (fun q12 => ?_)
              · have hf := ifp hf q12
                refine lv_iload_n hx hb dX4_joined_96 rfl (lv_at hl 2 rfl) ?_
                exact hj97 x2 H locs ls hf hS (lv_sub hl [] rfl)
              · have hf := ifn hf q12
                refine lv_iload_n hx hb dX4_joined_92 rfl (lv_at hl 1 rfl) ?_
                refine lv_goto (tgt := 97) hx hb dX4_joined_93 (by decide) ?_
                exact hj97 x1 H locs ls hf hS (lv_sub hl [] rfl)
set_option maxRecDepth 100000 in
theorem cX4_joined_ok {l : Launch} {E : Ev} {x0 : Int32} {x1 : Int32} {x2 : Int32} {mm : Mem} {r : Int32} (hf : fX4_joined x0 x1 x2 = some r) : CtI l yX4_joined cX4_joined 3 (some .int) (0) (0) E [.int x0, .int x1, .int x2] mm r mm := by
  refine Met.ofW (cc := cX4_joined) (maxL := 3) (ret := (some .int)) (by decide) rfl ?_
  intro p e s m args below meth c s₁ B hml hv
  obtain ⟨rfl, X, hS, hr, hlocks⟩ := am_in B hv
  refine am_entry (Nat.le_of_ble_eq_true rfl) (fun ls hl => ?_)
  exact wX4_joined X hml ⟨Nat.le_refl _, Nat.le_refl _⟩ hf (fun pc H locs ls hn hd hS => am_ri X hS hr hn hd hlocks) _ _ ls hS hl
set_option maxHeartbeats 4000000 in
set_option maxRecDepth 100000 in
theorem wX4_valueFor {p : Program} {l : Launch} {e : Env} {R : Room} {s : State} {m : MethodId} {args : Array Value} {below : List Frame} {meth : Method} {c : Code} {Q : State → Prop} {E : Ev} (X : Cx p s m args c cX4_valueFor RX4 E) (hml : c.maxLocals = 5) (hR : 1 ≤ R.frames ∧ 22 ≤ R.locals) {x0 : Nat} {x1 : Nat} {mm : Mem} {r : Int32} {mm1 : Mem} (hf : fX4_valueFor (eS E) x0 x1 mm = some (r, mm1)) (hret : ∀ (pc : Nat) (H : Heap) (locs : List Loc) (ls : Array Slot), narrow .int (.int r) = .int r → decode cX4_valueFor pc = .ok (.ireturn, 1) → wS E s mm1 H locs → W p l e R s m args below meth c H locs 0 0 Q (F0 m pc ls [.int r])) : ∀ (H : Heap) (locs : List Loc) (ls : Array Slot), wS E s mm H locs → lv_has ls 5 [(0, .ref x0), (1, .ref x1)] → W p l e R s m args below meth c H locs 0 0 Q (F0 m 0 ls []) := by
  have hx := X.1
  have hb := X.2.1
  have hR1 := hR.1
  have hR2 := hR.2
  have hRa : 1 ≤ R.frames := by omega
  have hRb : 22 ≤ R.locals := by omega
  unfold fX4_valueFor at hf
  have hj115 : ∀ (x0 : Nat) (mm : Mem) (H : Heap) (locs : List Loc) (ls : Array Slot), fX4_valueFor_j115 (eS E) x0 mm = some (r, mm1) → wS E s mm H locs → lv_has ls 5 [(0, .ref x0)] → W p l e R s m args below meth c H locs 0 0 Q (F0 m 115 ls []) := by
    intro x0 mm H locs ls hf hS hl
    unfold fX4_valueFor_j115 at hf
    refine lv_aload_n hx hb dX4_valueFor_115 rfl (lv_at hl 0 rfl) ?_
    obtain ⟨a1, h1, hf⟩ := bs hf
    refine am_gr X hS fl_X4_15 rfl h1 dX4_valueFor_116 ?_
    refine lv_iconst (v := 0) hx hb dX4_valueFor_119 (by decide) ?_
    obtain ⟨v2, h1, hf⟩ := bs hf
    refine am_ald X hS h1 dX4_valueFor_120 ?_
    cases hf
    exact hret _ _ _ _ rfl dX4_valueFor_121 hS
  have hj37 : ∀ (mm : Mem) (H : Heap) (locs : List Loc) (ls : Array Slot), fX4_valueFor_j37 (eS E) mm = some (r, mm1) → wS E s mm H locs → lv_has ls 5 [] → W p l e R s m args below meth c H locs 0 0 Q (F0 m 37 ls []) := by
    intro mm H locs ls hf hS hl
    unfold fX4_valueFor_j37 at hf
    refine lv_iconst (v := 0) hx hb dX4_valueFor_37 (by decide) ?_
    cases hf
    exact hret _ _ _ _ rfl dX4_valueFor_38 hS
  have hj77 : ∀ (mm : Mem) (H : Heap) (locs : List Loc) (ls : Array Slot), fX4_valueFor_j77 (eS E) mm = some (r, mm1) → wS E s mm H locs → lv_has ls 5 [] → W p l e R s m args below meth c H locs 0 0 Q (F0 m 77 ls []) := by
    intro mm H locs ls hf hS hl
    unfold fX4_valueFor_j77 at hf
    refine lv_iconst (v := 0) hx hb dX4_valueFor_77 (by decide) ?_
    cases hf
    exact hret _ _ _ _ rfl dX4_valueFor_78 hS
  intro H locs ls hS hl
  refine lv_iconst (v := 0) hx hb dX4_valueFor_0 (by decide) ?_
  refine lv_topi (fun x2_3 e1 => ?_)
  have hf := lt1_n e1 hf
  refine lv_istore_n (lv' := [(2, .int x2_3), (0, .ref x0), (1, .ref x1)]) hx hb dX4_valueFor_1 rfl hl (by decide) rfl (fun ls hl => ?_)
  refine lv_iconst (v := 0) hx hb dX4_valueFor_2 (by decide) ?_
  refine lv_topi (fun x3_4 e1 => ?_)
  have hf := lt1_n e1 hf
  refine lv_istore_n (lv' := [(3, .int x3_4), (2, .int x2_3), (0, .ref x0), (1, .ref x1)]) hx hb dX4_valueFor_3 rfl hl (by decide) rfl (fun ls hl => ?_)
  obtain ⟨ex4, hl4, hk4⟩ := bs hf
  refine loop_W (P := fun st => ∀ (H : Heap) (locs : List Loc) (ls : Array Slot), wS E s st.2.2 H locs → lv_has ls 5 [(0, .ref x0), (1, .ref x1), (2, .int st.1), (3, .int st.2.1)] → W p l e R s m args below meth c H locs 0 0 Q (F0 m 4 ls [])) (ex := ex4) ?_ FU _ hl4 H locs ls hS (lv_sub hl [2, 3, 1, 0] rfl)
  intro st y4 hf hyL4 hyR4 H locs ls hS hl
  obtain ⟨x2, x3, mm⟩ := st
  have hf : fX4_valueFor_b4 (eS E) x0 x1 x2 x3 mm = some y4 := hf
  have hS : wS E s mm H locs := hS
  have hl : lv_has ls 5 [(0, .ref x0), (1, .ref x1), (2, .int x2), (3, .int x3)] := hl
  unfold fX4_valueFor_b4 at hf
  have hj109 : ∀ (x2 : Int32) (x3 : Int32) (mm : Mem) (H : Heap) (locs : List Loc) (ls : Array Slot), fX4_valueFor_j109 (eS E) x0 x1 x2 x3 mm = some y4 → wS E s mm H locs → lv_has ls 5 [(0, .ref x0), (1, .ref x1), (2, .int x2), (3, .int x3)] → W p l e R s m args below meth c H locs 0 0 Q (F0 m 109 ls []) := by
    intro x2 x3 mm H locs ls hf hS hl
    unfold fX4_valueFor_j109 at hf
    obtain ⟨x3_5, e1⟩ : ∃ z : Int32, z = x3 + 1 := ⟨_, rfl⟩
    have hf := lt1_n e1 hf
    refine lv_iinc (v := x3_5) (lv' := [(3, .int x3_5), (0, .ref x0), (1, .ref x1), (2, .int x2)]) hx hb dX4_valueFor_109 hl (k := 3) rfl (by rw [e1]; rfl) (by decide) rfl (fun ls hl => ?_)
    refine lv_goto (tgt := 4) hx hb dX4_valueFor_112 (by decide) ?_
    exact hyL4 _ (Option.some.inj hf).symm H locs ls hS (lv_sub hl [1, 2, 3, 0] rfl)
  have hj65 : ∀ (x2 : Int32) (x3 : Int32) (s0 : Nat) (s1 : Int32) (s2 : Int32) (mm : Mem) (H : Heap) (locs : List Loc) (ls : Array Slot), fX4_valueFor_j65 (eS E) x0 x1 x2 x3 s0 s1 s2 mm = some y4 → wS E s mm H locs → lv_has ls 5 [(0, .ref x0), (1, .ref x1), (2, .int x2), (3, .int x3)] → W p l e R s m args below meth c H locs 0 0 Q (F0 m 65 ls [.int s2, .int s1, .ref s0]) := by
    intro x2 x3 s0 s1 s2 mm H locs ls hf hS hl
    unfold fX4_valueFor_j65 at hf
    obtain ⟨m6, h1, hf⟩ := bs hf
    refine am_ast X hS h1 dX4_valueFor_65 (fun H locs hS => ?_)
    obtain ⟨x2_7, e1⟩ : ∃ z : Int32, z = x2 + 1 := ⟨_, rfl⟩
    have hf := lt1_n e1 hf
    refine lv_iinc (v := x2_7) (lv' := [(2, .int x2_7), (0, .ref x0), (1, .ref x1), (3, .int x3)]) hx hb dX4_valueFor_66 hl (k := 2) rfl (by rw [e1]; rfl) (by decide) rfl (fun ls hl => ?_)
    refine lv_goto (tgt := 109) hx hb dX4_valueFor_69 (by decide) ?_
    exact hj109 x2_7 x3 m6 H locs ls hf hS (lv_sub hl [1, 2, 0, 3] rfl)
  refine lv_iload_n hx hb dX4_valueFor_4 rfl (lv_at hl 3 rfl) ?_
  refine lv_aload_n hx hb dX4_valueFor_5 rfl (lv_at hl 0 rfl) ?_
  obtain ⟨v8, h1, hf⟩ := bs hf
  refine am_gi X hS fl_X4_21 rfl h1 dX4_valueFor_6 ?_
  refine lv_icmp_ge (tgt := 115) hx hb dX4_valueFor_9 (by decide) (fun q9 => ?_) (fun q9 => ?_)
  · have hf := ifp hf q9
    obtain rfl : Sum.inr (Sum.inr (mm)) = ex4 := hyR4 _ (Option.some.inj hf).symm
    exact hj115 x0 mm H locs ls hk4 hS (lv_sub hl [0] rfl)
  · have hf := ifn hf q9
    refine lv_aload_n hx hb dX4_valueFor_12 rfl (lv_at hl 0 rfl) ?_
    obtain ⟨a10, h1, hf⟩ := bs hf
    refine am_gr X hS fl_X4_9 rfl h1 dX4_valueFor_13 ?_
    refine lv_iload_n hx hb dX4_valueFor_16 rfl (lv_at hl 3 rfl) ?_
    obtain ⟨v11, h1, hf⟩ := bs hf
    refine am_ald X hS h1 dX4_valueFor_17 ?_
    refine lv_topi (fun x4_12 e1 => ?_)
    have hf := lt1_n e1 hf
    refine lv_istore (lv' := [(4, .int x4_12), (0, .ref x0), (1, .ref x1), (2, .int x2), (3, .int x3)]) hx hb dX4_valueFor_18 hl (by decide) rfl (fun ls hl => ?_)
    refine lv_iload hx hb dX4_valueFor_20 (lv_at hl 0 rfl) ?_
    refine lv_sipush (v := 1100) hx hb dX4_valueFor_22 (by decide) ?_
    refine lv_icmp_ge (tgt := 72) hx hb dX4_valueFor_25 (by decide) (fun q13 => ?_) (fun q13 => ?_)
    · have hf := ifp hf q13
      refine lv_iload_n hx hb dX4_valueFor_72 rfl (lv_at hl 3 rfl) ?_
      refine lv_iconst (v := 2) hx hb dX4_valueFor_73 (by decide) ?_
      refine lv_icmp_ge (tgt := 79) hx hb dX4_valueFor_74 (by decide) (fun q14 => ?_) (fun q14 => ?_)
      · have hf := ifp hf q14
        obtain ⟨x2_15, e1⟩ : ∃ z : Int32, z = x2 + (-1) := ⟨_, rfl⟩
        have hf := lt1_n e1 hf
        refine lv_iinc (v := x2_15) (lv' := [(2, .int x2_15), (4, .int x4_12), (0, .ref x0), (1, .ref x1), (3, .int x3)]) hx hb dX4_valueFor_79 hl (k := 3) rfl (by rw [e1]; rfl) (by decide) rfl (fun ls hl => ?_)
        refine lv_aload_n hx hb dX4_valueFor_82 rfl (lv_at hl 2 rfl) ?_
        obtain ⟨a16, h1, hf⟩ := bs hf
        refine am_gr X hS fl_X4_15 rfl h1 dX4_valueFor_83 ?_
        refine lv_iload_n hx hb dX4_valueFor_86 rfl (lv_at hl 0 rfl) ?_
        refine lv_iconst (v := 1) hx hb dX4_valueFor_87 (by decide) ?_
        refine lv_isub hx hb dX4_valueFor_88 ?_
        refine lv_iload hx hb dX4_valueFor_89 (lv_at hl 1 rfl) ?_
        refine lv_aload_n hx hb dX4_valueFor_91 rfl (lv_at hl 2 rfl) ?_
        obtain ⟨a17, h1, hf⟩ := bs hf
        refine am_gr X hS fl_X4_15 rfl h1 dX4_valueFor_92 ?_
        refine lv_iload_n hx hb dX4_valueFor_95 rfl (lv_at hl 0 rfl) ?_
        refine lv_iconst (v := 1) hx hb dX4_valueFor_96 (by decide) ?_
        refine lv_isub hx hb dX4_valueFor_97 ?_
        obtain ⟨v18, h1, hf⟩ := bs hf
        refine am_ald X hS h1 dX4_valueFor_98 ?_
        refine lv_aload_n hx hb dX4_valueFor_99 rfl (lv_at hl 2 rfl) ?_
        obtain ⟨a19, h1, hf⟩ := bs hf
        refine am_gr X hS fl_X4_15 rfl h1 dX4_valueFor_100 ?_
        refine lv_iload_n hx hb dX4_valueFor_103 rfl (lv_at hl 0 rfl) ?_
        obtain ⟨v20, h1, hf⟩ := bs hf
        refine am_ald X hS h1 dX4_valueFor_104 ?_
        obtain ⟨v21, h1, hf⟩ := bs hf
        refine am_endi hS (am_runS (As := [.int x4_12, .int v18, .int v20]) X (hml.trans hl.1.symm) hS (cX4_joined_ok (l := l) (E := E) h1) ms_X4_79 ⟨Nat.le_trans (by decide) hRa, Nat.le_trans (by decide) hRb⟩ ⟨Nat.zero_le _, Nat.zero_le _⟩ rfl rfl (Nat.le_of_ble_eq_true rfl) dX4_valueFor_105) (fun H locs hS => ?_)
        obtain ⟨m22, h1, hf⟩ := bs hf
        refine am_ast X hS h1 dX4_valueFor_108 (fun H locs hS => ?_)
        exact hj109 x2_15 x3 m22 H locs ls hf hS (lv_sub hl [2, 3, 0, 4] rfl)
      · have hf := ifn hf q14
        obtain rfl : Sum.inr (Sum.inl mm) = ex4 := hyR4 _ (Option.some.inj hf).symm
        exact hj77 mm H locs ls hk4 hS (lv_sub hl [] rfl)
    · have hf := ifn hf q13
      refine lv_iload_n hx hb dX4_valueFor_28 rfl (lv_at hl 3 rfl) ?_
      refine lv_aload_n hx hb dX4_valueFor_29 rfl (lv_at hl 1 rfl) ?_
      obtain ⟨a23, h1, hf⟩ := bs hf
      refine am_gr X hS fl_X4_15 rfl h1 dX4_valueFor_30 ?_
      obtain ⟨v24, h1, hf⟩ := bs hf
      refine am_len X hS h1 dX4_valueFor_33 ?_
      refine lv_icmp_lt (tgt := 39) hx hb dX4_valueFor_34 (by decide) (fun q25 => ?_) (fun q25 => ?_)
      · have hf := ifp hf q25
        refine lv_aload_n hx hb dX4_valueFor_39 rfl (lv_at hl 1 rfl) ?_
        obtain ⟨a26, h1, hf⟩ := bs hf
        refine am_gr X hS fl_X4_15 rfl h1 dX4_valueFor_40 ?_
        refine lv_iload_n hx hb dX4_valueFor_43 rfl (lv_at hl 3 rfl) ?_
        refine lv_iload hx hb dX4_valueFor_44 (lv_at hl 0 rfl) ?_
        refine lv_sipush (v := 1000) hx hb dX4_valueFor_46 (by decide) ?_
        refine lv_icmp_ge (tgt := 57) hx hb dX4_valueFor_49 (by decide) (fun q27 => ?_) (fun q27 => ?_)
        · have hf := ifp hf q27
          refine lv_aload_n hx hb dX4_valueFor_57 rfl (lv_at hl 2 rfl) ?_
          refine lv_iload hx hb dX4_valueFor_58 (lv_at hl 0 rfl) ?_
          refine lv_sipush (v := 1000) hx hb dX4_valueFor_60 (by decide) ?_
          refine lv_isub hx hb dX4_valueFor_63 ?_
          obtain ⟨v28, h1, hf⟩ := bs hf
          refine am_ald X hS h1 dX4_valueFor_64 ?_
          exact hj65 x2 x3 a26 x2 v28 mm H locs ls hf hS (lv_sub hl [1, 2, 3, 4] rfl)
        · have hf := ifn hf q27
          refine lv_iload hx hb dX4_valueFor_52 (lv_at hl 0 rfl) ?_
          refine lv_goto (tgt := 65) hx hb dX4_valueFor_54 (by decide) ?_
          exact hj65 x2 x3 a26 x2 x4_12 mm H locs ls hf hS (lv_sub hl [1, 2, 3, 4] rfl)
      · have hf := ifn hf q25
        obtain rfl : Sum.inl mm = ex4 := hyR4 _ (Option.some.inj hf).symm
        exact hj37 mm H locs ls hk4 hS (lv_sub hl [] rfl)
set_option maxRecDepth 100000 in
theorem cX4_valueFor_ok {l : Launch} {E : Ev} {x0 : Nat} {x1 : Nat} {mm : Mem} {r : Int32} {mm1 : Mem} (hf : fX4_valueFor (eS E) x0 x1 mm = some (r, mm1)) : CtI l yX4_valueFor cX4_valueFor 5 (some .int) (1) (22) E [.ref x0, .ref x1] mm r mm1 := by
  refine Met.ofW (cc := cX4_valueFor) (maxL := 5) (ret := (some .int)) (by decide) rfl ?_
  intro p e s m args below meth c s₁ B hml hv
  obtain ⟨rfl, X, hS, hr, hlocks⟩ := am_in B hv
  refine am_entry (Nat.le_of_ble_eq_true rfl) (fun ls hl => ?_)
  exact wX4_valueFor X hml ⟨Nat.le_refl _, Nat.le_refl _⟩ hf (fun pc H locs ls hn hd hS => am_ri X hS hr hn hd hlocks) _ _ ls hS hl
set_option maxHeartbeats 4000000 in
set_option maxRecDepth 100000 in
theorem wX7_push {p : Program} {l : Launch} {e : Env} {R : Room} {s : State} {m : MethodId} {args : Array Value} {below : List Frame} {meth : Method} {c : Code} {Q : State → Prop} {E : Ev} (X : Cx p s m args c cX7_push RX7 E) (hml : c.maxLocals = 2) (hR : 2 ≤ R.frames ∧ 81 ≤ R.locals) {x0 : Nat} {x1 : Nat} {mm : Mem} {mm1 : Mem} (hf : fX7_push (eS E) x0 x1 mm = some mm1) (hret : ∀ (pc : Nat) (H : Heap) (locs : List Loc) (ls : Array Slot), decode cX7_push pc = .ok (.return_, 1) → wS E s mm1 H locs → W p l e R s m args below meth c H locs 0 0 Q (F0 m pc ls [])) : ∀ (H : Heap) (locs : List Loc) (ls : Array Slot), wS E s mm H locs → lv_has ls 2 [(0, .ref x0), (1, .ref x1)] → W p l e R s m args below meth c H locs 0 0 Q (F0 m 0 ls []) := by
  have hx := X.1
  have hb := X.2.1
  have hR1 := hR.1
  have hR2 := hR.2
  have hRa : 2 ≤ R.frames := by omega
  have hRb : 81 ≤ R.locals := by omega
  unfold fX7_push at hf
  have hj32 : ∀ (mm : Mem) (H : Heap) (locs : List Loc) (ls : Array Slot), fX7_push_j32 (eS E) mm = some mm1 → wS E s mm H locs → lv_has ls 2 [] → W p l e R s m args below meth c H locs 0 0 Q (F0 m 32 ls []) := by
    intro mm H locs ls hf hS hl
    unfold fX7_push_j32 at hf
    cases hf
    exact hret _ _ _ _ dX7_push_32 hS
  intro H locs ls hS hl
  refine lv_aload_n hx hb dX7_push_0 rfl (lv_at hl 0 rfl) ?_
  obtain ⟨v1, h1, hf⟩ := bs hf
  refine am_gi X hS fl_X7_18 rfl h1 dX7_push_1 ?_
  refine lv_bipush (v := 16) hx hb dX7_push_4 (by decide) ?_
  refine lv_icmp_ge (tgt := 32) hx hb dX7_push_6 (by decide) (fun q2 => ?_) (fun q2 => ?_)
  · have hf := ifp hf q2
    exact hj32 mm H locs ls hf hS (lv_sub hl [] rfl)
  · have hf := ifn hf q2
    refine lv_aload_n hx hb dX7_push_9 rfl (lv_at hl 0 rfl) ?_
    obtain ⟨a3, h1, hf⟩ := bs hf
    refine am_gr X hS fl_X7_11 rfl h1 dX7_push_10 ?_
    refine lv_aload_n hx hb dX7_push_13 rfl (lv_at hl 0 rfl) ?_
    obtain ⟨v4, h1, hf⟩ := bs hf
    refine am_gi X hS fl_X7_18 rfl h1 dX7_push_14 ?_
    obtain ⟨a5, h1, hf⟩ := bs hf
    refine am_ara X hS h1 dX7_push_17 ?_
    refine lv_aload_n hx hb dX7_push_18 rfl (lv_at hl 1 rfl) ?_
    obtain ⟨u0, h0, hf⟩ := bs hf
    obtain ⟨_, hrc⟩ := isO_n h0
    obtain ⟨m6, h1, hf⟩ := bs hf
    refine am_endv hS (am_runV (As := [.ref x1]) X (hml.trans hl.1.symm) hS (cX2_copyFrom_ok (l := l) (E := E) h1) mv_X7_22 hrc rfl ⟨Nat.le_trans (by decide) hRa, Nat.le_trans (by decide) hRb⟩ ⟨Nat.zero_le _, Nat.zero_le _⟩ rfl rfl (Nat.le_of_ble_eq_true rfl) dX7_push_19) (fun H locs hS => ?_)
    refine lv_aload_n hx hb dX7_push_22 rfl (lv_at hl 0 rfl) ?_
    refine lv_dup hx hb dX7_push_23 rfl ?_
    obtain ⟨v7, h1, hf⟩ := bs hf
    refine am_gi X hS fl_X7_18 rfl h1 dX7_push_24 ?_
    refine lv_iconst (v := 1) hx hb dX7_push_27 (by decide) ?_
    refine lv_iadd hx hb dX7_push_28 ?_
    obtain ⟨m8, h1, hf⟩ := bs hf
    refine am_pi X hS fp_X7_18 rfl h1 dX7_push_29 (fun H locs hS => ?_)
    exact hj32 m8 H locs ls hf hS (lv_sub hl [] rfl)
set_option maxRecDepth 100000 in
theorem cX7_push_ok {l : Launch} {E : Ev} {x0 : Nat} {x1 : Nat} {mm : Mem} {mm1 : Mem} (hf : fX7_push (eS E) x0 x1 mm = some mm1) : CtV l yX7_push cX7_push 2 none (2) (81) E [.ref x0, .ref x1] mm mm1 := by
  refine Met.ofW (cc := cX7_push) (maxL := 2) (ret := none) (by decide) rfl ?_
  intro p e s m args below meth c s₁ B hml hv
  obtain ⟨rfl, X, hS, hr, hlocks⟩ := am_in B hv
  refine am_entry (Nat.le_of_ble_eq_true rfl) (fun ls hl => ?_)
  exact wX7_push X hml ⟨Nat.le_refl _, Nat.le_refl _⟩ hf (fun pc H locs ls hd hS => am_rv X hS hr hd hlocks) _ _ ls hS hl
set_option maxHeartbeats 4000000 in
set_option maxRecDepth 100000 in
theorem wX7_popInto {p : Program} {l : Launch} {e : Env} {R : Room} {s : State} {m : MethodId} {args : Array Value} {below : List Frame} {meth : Method} {c : Code} {Q : State → Prop} {E : Ev} (X : Cx p s m args c cX7_popInto RX7 E) (hml : c.maxLocals = 2) (hR : 2 ≤ R.frames ∧ 81 ≤ R.locals) {x0 : Nat} {x1 : Nat} {mm : Mem} {mm1 : Mem} (hf : fX7_popInto (eS E) x0 x1 mm = some mm1) (hret : ∀ (pc : Nat) (H : Heap) (locs : List Loc) (ls : Array Slot), decode cX7_popInto pc = .ok (.return_, 1) → wS E s mm1 H locs → W p l e R s m args below meth c H locs 0 0 Q (F0 m pc ls [])) : ∀ (H : Heap) (locs : List Loc) (ls : Array Slot), wS E s mm H locs → lv_has ls 2 [(0, .ref x0), (1, .ref x1)] → W p l e R s m args below meth c H locs 0 0 Q (F0 m 0 ls []) := by
  have hx := X.1
  have hb := X.2.1
  have hR1 := hR.1
  have hR2 := hR.2
  have hRa : 2 ≤ R.frames := by omega
  have hRb : 81 ≤ R.locals := by omega
  unfold fX7_popInto at hf
  have hj30 : ∀ (mm : Mem) (H : Heap) (locs : List Loc) (ls : Array Slot), fX7_popInto_j30 (eS E) mm = some mm1 → wS E s mm H locs → lv_has ls 2 [] → W p l e R s m args below meth c H locs 0 0 Q (F0 m 30 ls []) := by
    intro mm H locs ls hf hS hl
    unfold fX7_popInto_j30 at hf
    cases hf
    exact hret _ _ _ _ dX7_popInto_30 hS
  intro H locs ls hS hl
  refine lv_aload_n hx hb dX7_popInto_0 rfl (lv_at hl 0 rfl) ?_
  obtain ⟨v1, h1, hf⟩ := bs hf
  refine am_gi X hS fl_X7_18 rfl h1 dX7_popInto_1 ?_
  refine lv_if_le (tgt := 30) hx hb dX7_popInto_4 (by decide) (fun q2 => ?_) (fun q2 => ?_)
  · have hf := ifp hf q2
    exact hj30 mm H locs ls hf hS (lv_sub hl [] rfl)
  · have hf := ifn hf q2
    refine lv_aload_n hx hb dX7_popInto_7 rfl (lv_at hl 0 rfl) ?_
    refine lv_dup hx hb dX7_popInto_8 rfl ?_
    obtain ⟨v3, h1, hf⟩ := bs hf
    refine am_gi X hS fl_X7_18 rfl h1 dX7_popInto_9 ?_
    refine lv_iconst (v := 1) hx hb dX7_popInto_12 (by decide) ?_
    refine lv_isub hx hb dX7_popInto_13 ?_
    obtain ⟨m4, h1, hf⟩ := bs hf
    refine am_pi X hS fp_X7_18 rfl h1 dX7_popInto_14 (fun H locs hS => ?_)
    refine lv_aload_n hx hb dX7_popInto_17 rfl (lv_at hl 1 rfl) ?_
    refine lv_aload_n hx hb dX7_popInto_18 rfl (lv_at hl 0 rfl) ?_
    obtain ⟨a5, h1, hf⟩ := bs hf
    refine am_gr X hS fl_X7_11 rfl h1 dX7_popInto_19 ?_
    refine lv_aload_n hx hb dX7_popInto_22 rfl (lv_at hl 0 rfl) ?_
    obtain ⟨v6, h1, hf⟩ := bs hf
    refine am_gi X hS fl_X7_18 rfl h1 dX7_popInto_23 ?_
    obtain ⟨a7, h1, hf⟩ := bs hf
    refine am_ara X hS h1 dX7_popInto_26 ?_
    obtain ⟨u0, h0, hf⟩ := bs hf
    obtain ⟨_, hrc⟩ := isO_n h0
    obtain ⟨m8, h1, hf⟩ := bs hf
    refine am_endv hS (am_runV (As := [.ref a7]) X (hml.trans hl.1.symm) hS (cX2_copyFrom_ok (l := l) (E := E) h1) mv_X7_22 hrc rfl ⟨Nat.le_trans (by decide) hRa, Nat.le_trans (by decide) hRb⟩ ⟨Nat.zero_le _, Nat.zero_le _⟩ rfl rfl (Nat.le_of_ble_eq_true rfl) dX7_popInto_27) (fun H locs hS => ?_)
    exact hj30 m8 H locs ls hf hS (lv_sub hl [] rfl)
set_option maxRecDepth 100000 in
theorem cX7_popInto_ok {l : Launch} {E : Ev} {x0 : Nat} {x1 : Nat} {mm : Mem} {mm1 : Mem} (hf : fX7_popInto (eS E) x0 x1 mm = some mm1) : CtV l yX7_popInto cX7_popInto 2 none (2) (81) E [.ref x0, .ref x1] mm mm1 := by
  refine Met.ofW (cc := cX7_popInto) (maxL := 2) (ret := none) (by decide) rfl ?_
  intro p e s m args below meth c s₁ B hml hv
  obtain ⟨rfl, X, hS, hr, hlocks⟩ := am_in B hv
  refine am_entry (Nat.le_of_ble_eq_true rfl) (fun ls hl => ?_)
  exact wX7_popInto X hml ⟨Nat.le_refl _, Nat.le_refl _⟩ hf (fun pc H locs ls hd hS => am_rv X hS hr hd hlocks) _ _ ls hS hl
set_option maxHeartbeats 4000000 in
set_option maxRecDepth 100000 in
theorem wX7_copyFrom {p : Program} {l : Launch} {e : Env} {R : Room} {s : State} {m : MethodId} {args : Array Value} {below : List Frame} {meth : Method} {c : Code} {Q : State → Prop} {E : Ev} (X : Cx p s m args c cX7_copyFrom RX7 E) (hml : c.maxLocals = 3) (hR : 2 ≤ R.frames ∧ 81 ≤ R.locals) {x0 : Nat} {x1 : Nat} {mm : Mem} {mm1 : Mem} (hf : fX7_copyFrom (eS E) x0 x1 mm = some mm1) (hret : ∀ (pc : Nat) (H : Heap) (locs : List Loc) (ls : Array Slot), decode cX7_copyFrom pc = .ok (.return_, 1) → wS E s mm1 H locs → W p l e R s m args below meth c H locs 0 0 Q (F0 m pc ls [])) : ∀ (H : Heap) (locs : List Loc) (ls : Array Slot), wS E s mm H locs → lv_has ls 3 [(0, .ref x0), (1, .ref x1)] → W p l e R s m args below meth c H locs 0 0 Q (F0 m 0 ls []) := by
  have hx := X.1
  have hb := X.2.1
  have hR1 := hR.1
  have hR2 := hR.2
  have hRa : 2 ≤ R.frames := by omega
  have hRb : 81 ≤ R.locals := by omega
  unfold fX7_copyFrom at hf
  have hj39 : ∀ (mm : Mem) (H : Heap) (locs : List Loc) (ls : Array Slot), fX7_copyFrom_j39 (eS E) mm = some mm1 → wS E s mm H locs → lv_has ls 3 [] → W p l e R s m args below meth c H locs 0 0 Q (F0 m 39 ls []) := by
    intro mm H locs ls hf hS hl
    unfold fX7_copyFrom_j39 at hf
    cases hf
    exact hret _ _ _ _ dX7_copyFrom_39 hS
  intro H locs ls hS hl
  refine lv_aload_n hx hb dX7_copyFrom_0 rfl (lv_at hl 0 rfl) ?_
  refine lv_aload_n hx hb dX7_copyFrom_1 rfl (lv_at hl 1 rfl) ?_
  obtain ⟨v1, h1, hf⟩ := bs hf
  refine am_gi X hS fl_X7_18 rfl h1 dX7_copyFrom_2 ?_
  obtain ⟨m2, h1, hf⟩ := bs hf
  refine am_pi X hS fp_X7_18 rfl h1 dX7_copyFrom_5 (fun H locs hS => ?_)
  refine lv_iconst (v := 0) hx hb dX7_copyFrom_8 (by decide) ?_
  refine lv_topi (fun x2_3 e1 => ?_)
  have hf := lt1_n e1 hf
  refine lv_istore_n (lv' := [(2, .int x2_3), (0, .ref x0), (1, .ref x1)]) hx hb dX7_copyFrom_9 rfl hl (by decide) rfl (fun ls hl => ?_)
  obtain ⟨ex10, hl10, hk10⟩ := bs hf
  refine loop_W (P := fun st => ∀ (H : Heap) (locs : List Loc) (ls : Array Slot), wS E s st.2 H locs → lv_has ls 3 [(0, .ref x0), (1, .ref x1), (2, .int st.1)] → W p l e R s m args below meth c H locs 0 0 Q (F0 m 10 ls [])) (ex := ex10) ?_ FU _ hl10 H locs ls hS (lv_sub hl [1, 2, 0] rfl)
  intro st y10 hf hyL10 hyR10 H locs ls hS hl
  obtain ⟨x2, mm⟩ := st
  have hf : fX7_copyFrom_b10 (eS E) x0 x1 x2 mm = some y10 := hf
  have hS : wS E s mm H locs := hS
  have hl : lv_has ls 3 [(0, .ref x0), (1, .ref x1), (2, .int x2)] := hl
  unfold fX7_copyFrom_b10 at hf
  refine lv_iload_n hx hb dX7_copyFrom_10 rfl (lv_at hl 2 rfl) ?_
  refine lv_aload_n hx hb dX7_copyFrom_11 rfl (lv_at hl 0 rfl) ?_
  obtain ⟨v4, h1, hf⟩ := bs hf
  refine am_gi X hS fl_X7_18 rfl h1 dX7_copyFrom_12 ?_
  refine lv_icmp_ge (tgt := 39) hx hb dX7_copyFrom_15 (by decide) (fun q5 => ?_) (fun q5 => ?_)
  · have hf := ifp hf q5
    obtain rfl : mm = ex10 := hyR10 _ (Option.some.inj hf).symm
    exact hj39 mm H locs ls hk10 hS (lv_sub hl [] rfl)
  · have hf := ifn hf q5
    refine lv_aload_n hx hb dX7_copyFrom_18 rfl (lv_at hl 0 rfl) ?_
    obtain ⟨a6, h1, hf⟩ := bs hf
    refine am_gr X hS fl_X7_11 rfl h1 dX7_copyFrom_19 ?_
    refine lv_iload_n hx hb dX7_copyFrom_22 rfl (lv_at hl 2 rfl) ?_
    obtain ⟨a7, h1, hf⟩ := bs hf
    refine am_ara X hS h1 dX7_copyFrom_23 ?_
    refine lv_aload_n hx hb dX7_copyFrom_24 rfl (lv_at hl 1 rfl) ?_
    obtain ⟨a8, h1, hf⟩ := bs hf
    refine am_gr X hS fl_X7_11 rfl h1 dX7_copyFrom_25 ?_
    refine lv_iload_n hx hb dX7_copyFrom_28 rfl (lv_at hl 2 rfl) ?_
    obtain ⟨a9, h1, hf⟩ := bs hf
    refine am_ara X hS h1 dX7_copyFrom_29 ?_
    obtain ⟨u0, h0, hf⟩ := bs hf
    obtain ⟨_, hrc⟩ := isO_n h0
    obtain ⟨m10, h1, hf⟩ := bs hf
    refine am_endv hS (am_runV (As := [.ref a9]) X (hml.trans hl.1.symm) hS (cX2_copyFrom_ok (l := l) (E := E) h1) mv_X7_22 hrc rfl ⟨Nat.le_trans (by decide) hRa, Nat.le_trans (by decide) hRb⟩ ⟨Nat.zero_le _, Nat.zero_le _⟩ rfl rfl (Nat.le_of_ble_eq_true rfl) dX7_copyFrom_30) (fun H locs hS => ?_)
    obtain ⟨x2_11, e1⟩ : ∃ z : Int32, z = x2 + 1 := ⟨_, rfl⟩
    have hf := lt1_n e1 hf
    refine lv_iinc (v := x2_11) (lv' := [(2, .int x2_11), (0, .ref x0), (1, .ref x1)]) hx hb dX7_copyFrom_33 hl (k := 2) rfl (by rw [e1]; rfl) (by decide) rfl (fun ls hl => ?_)
    refine lv_goto (tgt := 10) hx hb dX7_copyFrom_36 (by decide) ?_
    exact hyL10 _ (Option.some.inj hf).symm H locs ls hS (lv_sub hl [1, 2, 0] rfl)
set_option maxRecDepth 100000 in
theorem cX7_copyFrom_ok {l : Launch} {E : Ev} {x0 : Nat} {x1 : Nat} {mm : Mem} {mm1 : Mem} (hf : fX7_copyFrom (eS E) x0 x1 mm = some mm1) : CtV l yX7_copyFrom cX7_copyFrom 3 none (2) (81) E [.ref x0, .ref x1] mm mm1 := by
  refine Met.ofW (cc := cX7_copyFrom) (maxL := 3) (ret := none) (by decide) rfl ?_
  intro p e s m args below meth c s₁ B hml hv
  obtain ⟨rfl, X, hS, hr, hlocks⟩ := am_in B hv
  refine am_entry (Nat.le_of_ble_eq_true rfl) (fun ls hl => ?_)
  exact wX7_copyFrom X hml ⟨Nat.le_refl _, Nat.le_refl _⟩ hf (fun pc H locs ls hd hS => am_rv X hS hr hd hlocks) _ _ ls hS hl
set_option maxHeartbeats 4000000 in
set_option maxRecDepth 100000 in
theorem wX8_put {p : Program} {l : Launch} {e : Env} {R : Room} {s : State} {m : MethodId} {args : Array Value} {below : List Frame} {meth : Method} {c : Code} {Q : State → Prop} {E : Ev} (X : Cx p s m args c cX8_put RX8 E) (hml : c.maxLocals = 3) (hR : 0 ≤ R.frames ∧ 0 ≤ R.locals) {x0 : Nat} {x1 : Int32} {mm : Mem} {mm1 : Mem} (hf : fX8_put (eS E) x0 x1 mm = some mm1) (hret : ∀ (pc : Nat) (H : Heap) (locs : List Loc) (ls : Array Slot), decode cX8_put pc = .ok (.return_, 1) → wS E s mm1 H locs → W p l e R s m args below meth c H locs 0 0 Q (F0 m pc ls [])) : ∀ (H : Heap) (locs : List Loc) (ls : Array Slot), wS E s mm H locs → lv_has ls 3 [(0, .ref x0), (1, .int x1)] → W p l e R s m args below meth c H locs 0 0 Q (F0 m 0 ls []) := by
  have hx := X.1
  have hb := X.2.1
  have hR1 := hR.1
  have hR2 := hR.2
  have hRa : 0 ≤ R.frames := by omega
  have hRb : 0 ≤ R.locals := by omega
  unfold fX8_put at hf
  have hj49 : ∀ (mm : Mem) (H : Heap) (locs : List Loc) (ls : Array Slot), fX8_put_j49 (eS E) mm = some mm1 → wS E s mm H locs → lv_has ls 3 [] → W p l e R s m args below meth c H locs 0 0 Q (F0 m 49 ls []) := by
    intro mm H locs ls hf hS hl
    unfold fX8_put_j49 at hf
    cases hf
    exact hret _ _ _ _ dX8_put_49 hS
  intro H locs ls hS hl
  refine lv_bipush (v := 24) hx hb dX8_put_0 (by decide) ?_
  refine lv_topi (fun x2_1 e1 => ?_)
  have hf := lt1_n e1 hf
  refine lv_istore_n (lv' := [(2, .int x2_1), (0, .ref x0), (1, .int x1)]) hx hb dX8_put_2 rfl hl (by decide) rfl (fun ls hl => ?_)
  obtain ⟨ex3, hl3, hk3⟩ := bs hf
  refine loop_W (P := fun st => ∀ (H : Heap) (locs : List Loc) (ls : Array Slot), wS E s st.2 H locs → lv_has ls 3 [(0, .ref x0), (1, .int x1), (2, .int st.1)] → W p l e R s m args below meth c H locs 0 0 Q (F0 m 3 ls [])) (ex := ex3) ?_ FU _ hl3 H locs ls hS (lv_sub hl [1, 2, 0] rfl)
  intro st y3 hf hyL3 hyR3 H locs ls hS hl
  obtain ⟨x2, mm⟩ := st
  have hf : fX8_put_b3 (eS E) x0 x1 x2 mm = some y3 := hf
  have hS : wS E s mm H locs := hS
  have hl : lv_has ls 3 [(0, .ref x0), (1, .int x1), (2, .int x2)] := hl
  unfold fX8_put_b3 at hf
  refine lv_iload_n hx hb dX8_put_3 rfl (lv_at hl 2 rfl) ?_
  refine lv_if_lt (tgt := 49) hx hb dX8_put_4 (by decide) (fun q2 => ?_) (fun q2 => ?_)
  · have hf := ifp hf q2
    obtain rfl : mm = ex3 := hyR3 _ (Option.some.inj hf).symm
    exact hj49 mm H locs ls hk3 hS (lv_sub hl [] rfl)
  · have hf := ifn hf q2
    refine lv_aload_n hx hb dX8_put_7 rfl (lv_at hl 0 rfl) ?_
    obtain ⟨v3, h1, hf⟩ := bs hf
    refine am_gi X hS fl_X8_19 rfl h1 dX8_put_8 ?_
    refine lv_sipush (v := 600) hx hb dX8_put_11 (by decide) ?_
    refine lv_icmp_ge (tgt := 49) hx hb dX8_put_14 (by decide) (fun q4 => ?_) (fun q4 => ?_)
    · have hf := ifp hf q4
      obtain rfl : mm = ex3 := hyR3 _ (Option.some.inj hf).symm
      exact hj49 mm H locs ls hk3 hS (lv_sub hl [] rfl)
    · have hf := ifn hf q4
      refine lv_aload_n hx hb dX8_put_17 rfl (lv_at hl 0 rfl) ?_
      obtain ⟨a5, h1, hf⟩ := bs hf
      refine am_gr X hS fl_X8_9 rfl h1 dX8_put_18 ?_
      refine lv_aload_n hx hb dX8_put_21 rfl (lv_at hl 0 rfl) ?_
      obtain ⟨v6, h1, hf⟩ := bs hf
      refine am_gi X hS fl_X8_19 rfl h1 dX8_put_22 ?_
      refine lv_iload_n hx hb dX8_put_25 rfl (lv_at hl 1 rfl) ?_
      refine lv_iload_n hx hb dX8_put_26 rfl (lv_at hl 2 rfl) ?_
      refine lv_iushr (v := (uShr x1 x2)) hx hb dX8_put_27 rfl ?_
      refine lv_sipush (v := 255) hx hb dX8_put_28 (by decide) ?_
      refine lv_iand hx hb dX8_put_31 ?_
      obtain ⟨m7, h1, hf⟩ := bs hf
      refine am_ast X hS h1 dX8_put_32 (fun H locs hS => ?_)
      refine lv_aload_n hx hb dX8_put_33 rfl (lv_at hl 0 rfl) ?_
      refine lv_dup hx hb dX8_put_34 rfl ?_
      obtain ⟨v8, h1, hf⟩ := bs hf
      refine am_gi X hS fl_X8_19 rfl h1 dX8_put_35 ?_
      refine lv_iconst (v := 1) hx hb dX8_put_38 (by decide) ?_
      refine lv_iadd hx hb dX8_put_39 ?_
      obtain ⟨m9, h1, hf⟩ := bs hf
      refine am_pi X hS fp_X8_19 rfl h1 dX8_put_40 (fun H locs hS => ?_)
      obtain ⟨x2_10, e1⟩ : ∃ z : Int32, z = x2 + (-8) := ⟨_, rfl⟩
      have hf := lt1_n e1 hf
      refine lv_iinc (v := x2_10) (lv' := [(2, .int x2_10), (0, .ref x0), (1, .int x1)]) hx hb dX8_put_43 hl (k := 2) rfl (by rw [e1]; rfl) (by decide) rfl (fun ls hl => ?_)
      refine lv_goto (tgt := 3) hx hb dX8_put_46 (by decide) ?_
      exact hyL3 _ (Option.some.inj hf).symm H locs ls hS (lv_sub hl [1, 2, 0] rfl)
set_option maxRecDepth 100000 in
theorem cX8_put_ok {l : Launch} {E : Ev} {x0 : Nat} {x1 : Int32} {mm : Mem} {mm1 : Mem} (hf : fX8_put (eS E) x0 x1 mm = some mm1) : CtV l yX8_put cX8_put 3 none (0) (0) E [.ref x0, .int x1] mm mm1 := by
  refine Met.ofW (cc := cX8_put) (maxL := 3) (ret := none) (by decide) rfl ?_
  intro p e s m args below meth c s₁ B hml hv
  obtain ⟨rfl, X, hS, hr, hlocks⟩ := am_in B hv
  refine am_entry (Nat.le_of_ble_eq_true rfl) (fun ls hl => ?_)
  exact wX8_put X hml ⟨Nat.le_refl _, Nat.le_refl _⟩ hf (fun pc H locs ls hd hS => am_rv X hS hr hd hlocks) _ _ ls hS hl
set_option maxHeartbeats 4000000 in
set_option maxRecDepth 100000 in
theorem wX8_open {p : Program} {l : Launch} {e : Env} {R : Room} {s : State} {m : MethodId} {args : Array Value} {below : List Frame} {meth : Method} {c : Code} {Q : State → Prop} {E : Ev} (X : Cx p s m args c cX8_open RX8 E) (hml : c.maxLocals = 2) (hR : 0 ≤ R.frames ∧ 0 ≤ R.locals) {x0 : Nat} {x1 : Int32} {mm : Mem} {mm1 : Mem} (hf : fX8_open (eS E) x0 x1 mm = some mm1) (hret : ∀ (pc : Nat) (H : Heap) (locs : List Loc) (ls : Array Slot), decode cX8_open pc = .ok (.return_, 1) → wS E s mm1 H locs → W p l e R s m args below meth c H locs 0 0 Q (F0 m pc ls [])) : ∀ (H : Heap) (locs : List Loc) (ls : Array Slot), wS E s mm H locs → lv_has ls 2 [(0, .ref x0), (1, .int x1)] → W p l e R s m args below meth c H locs 0 0 Q (F0 m 0 ls []) := by
  have hx := X.1
  have hb := X.2.1
  have hR1 := hR.1
  have hR2 := hR.2
  have hRa : 0 ≤ R.frames := by omega
  have hRb : 0 ≤ R.locals := by omega
  unfold fX8_open at hf
  intro H locs ls hS hl
  refine lv_aload_n hx hb dX8_open_0 rfl (lv_at hl 0 rfl) ?_
  refine lv_iload_n hx hb dX8_open_1 rfl (lv_at hl 1 rfl) ?_
  obtain ⟨m1, h1, hf⟩ := bs hf
  refine am_pi X hS fp_X8_22 rfl h1 dX8_open_2 (fun H locs hS => ?_)
  refine lv_aload_n hx hb dX8_open_5 rfl (lv_at hl 0 rfl) ?_
  refine lv_iconst (v := 0) hx hb dX8_open_6 (by decide) ?_
  obtain ⟨m2, h1, hf⟩ := bs hf
  refine am_pi X hS fp_X8_25 rfl h1 dX8_open_7 (fun H locs hS => ?_)
  refine lv_aload_n hx hb dX8_open_10 rfl (lv_at hl 0 rfl) ?_
  refine lv_iconst (v := 0) hx hb dX8_open_11 (by decide) ?_
  obtain ⟨m3, h1, hf⟩ := bs hf
  refine am_pi X hS fp_X8_19 rfl h1 dX8_open_12 (fun H locs hS => ?_)
  refine lv_aload_n hx hb dX8_open_15 rfl (lv_at hl 0 rfl) ?_
  refine lv_iconst (v := 0) hx hb dX8_open_16 (by decide) ?_
  obtain ⟨m4, h1, hf⟩ := bs hf
  refine am_pi X hS fp_X8_28 rfl h1 dX8_open_17 (fun H locs hS => ?_)
  refine lv_aload_n hx hb dX8_open_20 rfl (lv_at hl 0 rfl) ?_
  refine lv_iconst (v := (-1)) hx hb dX8_open_21 (by decide) ?_
  obtain ⟨m5, h1, hf⟩ := bs hf
  refine am_pi X hS fp_X8_15 rfl h1 dX8_open_22 (fun H locs hS => ?_)
  cases hf
  exact hret _ _ _ _ dX8_open_25 hS
set_option maxRecDepth 100000 in
theorem cX8_open_ok {l : Launch} {E : Ev} {x0 : Nat} {x1 : Int32} {mm : Mem} {mm1 : Mem} (hf : fX8_open (eS E) x0 x1 mm = some mm1) : CtV l yX8_open cX8_open 2 none (0) (0) E [.ref x0, .int x1] mm mm1 := by
  refine Met.ofW (cc := cX8_open) (maxL := 2) (ret := none) (by decide) rfl ?_
  intro p e s m args below meth c s₁ B hml hv
  obtain ⟨rfl, X, hS, hr, hlocks⟩ := am_in B hv
  refine am_entry (Nat.le_of_ble_eq_true rfl) (fun ls hl => ?_)
  exact wX8_open X hml ⟨Nat.le_refl _, Nat.le_refl _⟩ hf (fun pc H locs ls hd hS => am_rv X hS hr hd hlocks) _ _ ls hS hl
set_option maxHeartbeats 4000000 in
set_option maxRecDepth 100000 in
theorem wX8_sees {p : Program} {l : Launch} {e : Env} {R : Room} {s : State} {m : MethodId} {args : Array Value} {below : List Frame} {meth : Method} {c : Code} {Q : State → Prop} {E : Ev} (X : Cx p s m args c cX8_sees RX8 E) (hml : c.maxLocals = 2) (hR : 1 ≤ R.frames ∧ 20 ≤ R.locals) {x0 : Nat} {x1 : Int32} {mm : Mem} {r : Int32} {mm1 : Mem} (hf : fX8_sees (eS E) x0 x1 mm = some (r, mm1)) (hret : ∀ (pc : Nat) (H : Heap) (locs : List Loc) (ls : Array Slot), narrow .boolean (.int r) = .int r → decode cX8_sees pc = .ok (.ireturn, 1) → wS E s mm1 H locs → W p l e R s m args below meth c H locs 0 0 Q (F0 m pc ls [.int r])) : ∀ (H : Heap) (locs : List Loc) (ls : Array Slot), wS E s mm H locs → lv_has ls 2 [(0, .ref x0), (1, .int x1)] → W p l e R s m args below meth c H locs 0 0 Q (F0 m 0 ls []) := by
  have hx := X.1
  have hb := X.2.1
  have hR1 := hR.1
  have hR2 := hR.2
  have hRa : 1 ≤ R.frames := by omega
  have hRb : 20 ≤ R.locals := by omega
  unfold fX8_sees at hf
  have hj29 : ∀ (s0 : Int32) (mm : Mem) (H : Heap) (locs : List Loc) (ls : Array Slot), fX8_sees_j29 (eS E) s0 mm = some (r, mm1) → wS E s mm H locs → lv_has ls 2 [] → W p l e R s m args below meth c H locs 0 0 Q (F0 m 29 ls [.int s0]) := by
    intro s0 mm H locs ls hf hS hl
    unfold fX8_sees_j29 at hf
    obtain ⟨v1, h1, hf⟩ := bs hf
    obtain ⟨rfl, h2⟩ := ckZ_n h1
    cases hf
    exact hret _ _ _ _ h2 dX8_sees_29 hS
  have hj28 : ∀ (mm : Mem) (H : Heap) (locs : List Loc) (ls : Array Slot), fX8_sees_j28 (eS E) mm = some (r, mm1) → wS E s mm H locs → lv_has ls 2 [] → W p l e R s m args below meth c H locs 0 0 Q (F0 m 28 ls []) := by
    intro mm H locs ls hf hS hl
    unfold fX8_sees_j28 at hf
    refine lv_iconst (v := 0) hx hb dX8_sees_28 (by decide) ?_
    exact hj29 0 mm H locs ls hf hS hl
  intro H locs ls hS hl
  refine lv_aload_n hx hb dX8_sees_0 rfl (lv_at hl 0 rfl) ?_
  obtain ⟨u0, h0, hf⟩ := bs hf
  obtain ⟨_, hrc⟩ := isO_n h0
  obtain ⟨v2, m3, h1, hf⟩ := bs2 hf
  refine am_endi hS (am_runV (As := []) X (hml.trans hl.1.symm) hS (cX8_next_ok (l := l) (E := E) h1) mv_X8_31 hrc rfl ⟨Nat.le_trans (by decide) hRa, Nat.le_trans (by decide) hRb⟩ ⟨Nat.zero_le _, Nat.zero_le _⟩ rfl rfl (Nat.le_of_ble_eq_true rfl) dX8_sees_1) (fun H locs hS => ?_)
  refine lv_aload_n hx hb dX8_sees_4 rfl (lv_at hl 0 rfl) ?_
  obtain ⟨v4, h1, hf⟩ := bs hf
  refine am_gi X hS fl_X8_22 rfl h1 dX8_sees_5 ?_
  refine lv_icmp_ge (tgt := 28) hx hb dX8_sees_8 (by decide) (fun q5 => ?_) (fun q5 => ?_)
  · have hf := ifp hf q5
    exact hj28 m3 H locs ls hf hS (lv_sub hl [] rfl)
  · have hf := ifn hf q5
    refine lv_aload_n hx hb dX8_sees_11 rfl (lv_at hl 0 rfl) ?_
    obtain ⟨a6, h1, hf⟩ := bs hf
    refine am_gr X hS fl_X8_9 rfl h1 dX8_sees_12 ?_
    refine lv_aload_n hx hb dX8_sees_15 rfl (lv_at hl 0 rfl) ?_
    obtain ⟨v7, h1, hf⟩ := bs hf
    refine am_gi X hS fl_X8_25 rfl h1 dX8_sees_16 ?_
    obtain ⟨v8, h1, hf⟩ := bs hf
    refine am_ald X hS h1 dX8_sees_19 ?_
    refine lv_iload_n hx hb dX8_sees_20 rfl (lv_at hl 1 rfl) ?_
    refine lv_icmp_ne (tgt := 28) hx hb dX8_sees_21 (by decide) (fun q9 => ?_) (fun q9 => ?_)
    · have hf := ifn hf q9
      exact hj28 m3 H locs ls hf hS (lv_sub hl [] rfl)
    · have hf := ifp hf q9
      refine lv_iconst (v := 1) hx hb dX8_sees_24 (by decide) ?_
      refine lv_goto (tgt := 29) hx hb dX8_sees_25 (by decide) ?_
      exact hj29 1 m3 H locs ls hf hS (lv_sub hl [] rfl)
set_option maxRecDepth 100000 in
theorem cX8_sees_ok {l : Launch} {E : Ev} {x0 : Nat} {x1 : Int32} {mm : Mem} {r : Int32} {mm1 : Mem} (hf : fX8_sees (eS E) x0 x1 mm = some (r, mm1)) : CtI l yX8_sees cX8_sees 2 (some .boolean) (1) (20) E [.ref x0, .int x1] mm r mm1 := by
  refine Met.ofW (cc := cX8_sees) (maxL := 2) (ret := (some .boolean)) (by decide) rfl ?_
  intro p e s m args below meth c s₁ B hml hv
  obtain ⟨rfl, X, hS, hr, hlocks⟩ := am_in B hv
  refine am_entry (Nat.le_of_ble_eq_true rfl) (fun ls hl => ?_)
  exact wX8_sees X hml ⟨Nat.le_refl _, Nat.le_refl _⟩ hf (fun pc H locs ls hn hd hS => am_ri X hS hr hn hd hlocks) _ _ ls hS hl

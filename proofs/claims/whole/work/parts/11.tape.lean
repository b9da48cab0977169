theorem dX8_open_0 : decode cX8_open 0 = .ok (.aload_n 0, 1) := by decide +kernel
theorem dX8_open_1 : decode cX8_open 1 = .ok (.iload_n 1, 1) := by decide +kernel
theorem dX8_open_2 : decode cX8_open 2 = .ok (.putfield 22, 3) := by decide +kernel
theorem dX8_open_5 : decode cX8_open 5 = .ok (.aload_n 0, 1) := by decide +kernel
theorem dX8_open_6 : decode cX8_open 6 = .ok (.iconst 0, 1) := by decide +kernel
theorem dX8_open_7 : decode cX8_open 7 = .ok (.putfield 25, 3) := by decide +kernel
theorem dX8_open_10 : decode cX8_open 10 = .ok (.aload_n 0, 1) := by decide +kernel
theorem dX8_open_11 : decode cX8_open 11 = .ok (.iconst 0, 1) := by decide +kernel
theorem dX8_open_12 : decode cX8_open 12 = .ok (.putfield 19, 3) := by decide +kernel
theorem dX8_open_15 : decode cX8_open 15 = .ok (.aload_n 0, 1) := by decide +kernel
theorem dX8_open_16 : decode cX8_open 16 = .ok (.iconst 0, 1) := by decide +kernel
theorem dX8_open_17 : decode cX8_open 17 = .ok (.putfield 28, 3) := by decide +kernel
theorem dX8_open_20 : decode cX8_open 20 = .ok (.aload_n 0, 1) := by decide +kernel
theorem dX8_open_21 : decode cX8_open 21 = .ok (.iconst (-1), 1) := by decide +kernel
theorem dX8_open_22 : decode cX8_open 22 = .ok (.putfield 15, 3) := by decide +kernel
theorem dX8_open_25 : decode cX8_open 25 = .ok (.return_, 1) := by decide +kernel
theorem dX4_copyFrom_0 : decode cX4_copyFrom 0 = .ok (.aload_n 1, 1) := by decide +kernel
theorem dX4_copyFrom_1 : decode cX4_copyFrom 1 = .ok (.getfield 9, 3) := by decide +kernel
theorem dX4_copyFrom_4 : decode cX4_copyFrom 4 = .ok (.iconst 0, 1) := by decide +kernel
theorem dX4_copyFrom_5 : decode cX4_copyFrom 5 = .ok (.aload_n 0, 1) := by decide +kernel
theorem dX4_copyFrom_6 : decode cX4_copyFrom 6 = .ok (.getfield 9, 3) := by decide +kernel
theorem dX4_copyFrom_9 : decode cX4_copyFrom 9 = .ok (.iconst 0, 1) := by decide +kernel
theorem dX4_copyFrom_10 : decode cX4_copyFrom 10 = .ok (.aload_n 0, 1) := by decide +kernel
theorem dX4_copyFrom_11 : decode cX4_copyFrom 11 = .ok (.getfield 9, 3) := by decide +kernel
theorem dX4_copyFrom_14 : decode cX4_copyFrom 14 = .ok (.arraylength, 1) := by decide +kernel
theorem dX4_copyFrom_15 : decode cX4_copyFrom 15 = .ok (.invokestatic 25, 3) := by decide +kernel
theorem dX4_copyFrom_18 : decode cX4_copyFrom 18 = .ok (.aload_n 0, 1) := by decide +kernel
theorem dX4_copyFrom_19 : decode cX4_copyFrom 19 = .ok (.aload_n 1, 1) := by decide +kernel
theorem dX4_copyFrom_20 : decode cX4_copyFrom 20 = .ok (.getfield 21, 3) := by decide +kernel
theorem dX4_copyFrom_23 : decode cX4_copyFrom 23 = .ok (.putfield 21, 3) := by decide +kernel
theorem dX4_copyFrom_26 : decode cX4_copyFrom 26 = .ok (.return_, 1) := by decide +kernel
theorem dX0_isRight_0 : decode cX0_isRight 0 = .ok (.iconst 0, 1) := by decide +kernel
theorem dX0_isRight_1 : decode cX0_isRight 1 = .ok (.istore_n 2, 1) := by decide +kernel
theorem dX0_isRight_2 : decode cX0_isRight 2 = .ok (.iload_n 2, 1) := by decide +kernel
theorem dX0_isRight_3 : decode cX0_isRight 3 = .ok (.aload_n 0, 1) := by decide +kernel
theorem dX0_isRight_4 : decode cX0_isRight 4 = .ok (.getfield 24, 3) := by decide +kernel
theorem dX0_isRight_7 : decode cX0_isRight 7 = .ok (.if_icmp .ge 40, 3) := by decide +kernel
theorem dX0_isRight_10 : decode cX0_isRight 10 = .ok (.aload_n 0, 1) := by decide +kernel
theorem dX0_isRight_11 : decode cX0_isRight 11 = .ok (.getfield 9, 3) := by decide +kernel
theorem dX0_isRight_14 : decode cX0_isRight 14 = .ok (.iload_n 2, 1) := by decide +kernel
theorem dX0_isRight_15 : decode cX0_isRight 15 = .ok (.iaload, 1) := by decide +kernel
theorem dX0_isRight_16 : decode cX0_isRight 16 = .ok (.istore_n 3, 1) := by decide +kernel
theorem dX0_isRight_17 : decode cX0_isRight 17 = .ok (.iload_n 3, 1) := by decide +kernel
theorem dX0_isRight_18 : decode cX0_isRight 18 = .ok (.ifCond .lt 21, 3) := by decide +kernel
theorem dX0_isRight_21 : decode cX0_isRight 21 = .ok (.iload_n 3, 1) := by decide +kernel
theorem dX0_isRight_22 : decode cX0_isRight 22 = .ok (.aload_n 1, 1) := by decide +kernel
theorem dX0_isRight_23 : decode cX0_isRight 23 = .ok (.arraylength, 1) := by decide +kernel
theorem dX0_isRight_24 : decode cX0_isRight 24 = .ok (.if_icmp .ge 15, 3) := by decide +kernel
theorem dX0_isRight_27 : decode cX0_isRight 27 = .ok (.aload_n 1, 1) := by decide +kernel
theorem dX0_isRight_28 : decode cX0_isRight 28 = .ok (.iload_n 3, 1) := by decide +kernel
theorem dX0_isRight_29 : decode cX0_isRight 29 = .ok (.iaload, 1) := by decide +kernel
theorem dX0_isRight_30 : decode cX0_isRight 30 = .ok (.aload_n 0, 1) := by decide +kernel
theorem dX0_isRight_31 : decode cX0_isRight 31 = .ok (.getfield 15, 3) := by decide +kernel
theorem dX0_isRight_34 : decode cX0_isRight 34 = .ok (.iload_n 2, 1) := by decide +kernel
theorem dX0_isRight_35 : decode cX0_isRight 35 = .ok (.iaload, 1) := by decide +kernel
theorem dX0_isRight_36 : decode cX0_isRight 36 = .ok (.if_icmp .eq 5, 3) := by decide +kernel
theorem dX0_isRight_39 : decode cX0_isRight 39 = .ok (.iconst 0, 1) := by decide +kernel
theorem dX0_isRight_40 : decode cX0_isRight 40 = .ok (.ireturn, 1) := by decide +kernel
theorem dX0_isRight_41 : decode cX0_isRight 41 = .ok (.iinc 2 1, 3) := by decide +kernel
theorem dX0_isRight_44 : decode cX0_isRight 44 = .ok (.goto (-42), 3) := by decide +kernel
theorem dX0_isRight_47 : decode cX0_isRight 47 = .ok (.iconst 1, 1) := by decide +kernel
theorem dX0_isRight_48 : decode cX0_isRight 48 = .ok (.ireturn, 1) := by decide +kernel
theorem dX8_number_0 : decode cX8_number 0 = .ok (.aload_n 0, 1) := by decide +kernel
theorem dX8_number_1 : decode cX8_number 1 = .ok (.invokevirtual 31, 3) := by decide +kernel
theorem dX8_number_4 : decode cX8_number 4 = .ok (.istore_n 3, 1) := by decide +kernel
theorem dX8_number_5 : decode cX8_number 5 = .ok (.iconst 0, 1) := by decide +kernel
theorem dX8_number_6 : decode cX8_number 6 = .ok (.istore 4, 2) := by decide +kernel
theorem dX8_number_8 : decode cX8_number 8 = .ok (.aload_n 0, 1) := by decide +kernel
theorem dX8_number_9 : decode cX8_number 9 = .ok (.getfield 25, 3) := by decide +kernel
theorem dX8_number_12 : decode cX8_number 12 = .ok (.aload_n 0, 1) := by decide +kernel
theorem dX8_number_13 : decode cX8_number 13 = .ok (.getfield 22, 3) := by decide +kernel
theorem dX8_number_16 : decode cX8_number 16 = .ok (.if_icmp .ge 56, 3) := by decide +kernel
theorem dX8_number_19 : decode cX8_number 19 = .ok (.aload_n 0, 1) := by decide +kernel
theorem dX8_number_20 : decode cX8_number 20 = .ok (.getfield 9, 3) := by decide +kernel
theorem dX8_number_23 : decode cX8_number 23 = .ok (.aload_n 0, 1) := by decide +kernel
theorem dX8_number_24 : decode cX8_number 24 = .ok (.getfield 25, 3) := by decide +kernel
theorem dX8_number_27 : decode cX8_number 27 = .ok (.iaload, 1) := by decide +kernel
theorem dX8_number_28 : decode cX8_number 28 = .ok (.invokestatic 35, 3) := by decide +kernel
theorem dX8_number_31 : decode cX8_number 31 = .ok (.ifCond .eq 41, 3) := by decide +kernel
theorem dX8_number_34 : decode cX8_number 34 = .ok (.ldc 47, 2) := by decide +kernel
theorem dX8_number_36 : decode cX8_number 36 = .ok (.iload 4, 2) := by decide +kernel
theorem dX8_number_38 : decode cX8_number 38 = .ok (.bipush 10, 2) := by decide +kernel
theorem dX8_number_40 : decode cX8_number 40 = .ok (.imul, 1) := by decide +kernel
theorem dX8_number_41 : decode cX8_number 41 = .ok (.aload_n 0, 1) := by decide +kernel
theorem dX8_number_42 : decode cX8_number 42 = .ok (.getfield 9, 3) := by decide +kernel
theorem dX8_number_45 : decode cX8_number 45 = .ok (.aload_n 0, 1) := by decide +kernel
theorem dX8_number_46 : decode cX8_number 46 = .ok (.getfield 25, 3) := by decide +kernel
theorem dX8_number_49 : decode cX8_number 49 = .ok (.iaload, 1) := by decide +kernel
theorem dX8_number_50 : decode cX8_number 50 = .ok (.iadd, 1) := by decide +kernel
theorem dX8_number_51 : decode cX8_number 51 = .ok (.bipush 48, 2) := by decide +kernel
theorem dX8_number_53 : decode cX8_number 53 = .ok (.isub, 1) := by decide +kernel
theorem dX8_number_54 : decode cX8_number 54 = .ok (.invokestatic 48, 3) := by decide +kernel
theorem dX8_number_57 : decode cX8_number 57 = .ok (.istore 4, 2) := by decide +kernel
theorem dX8_number_59 : decode cX8_number 59 = .ok (.aload_n 0, 1) := by decide +kernel
theorem dX8_number_60 : decode cX8_number 60 = .ok (.dup, 1) := by decide +kernel
theorem dX8_number_61 : decode cX8_number 61 = .ok (.getfield 25, 3) := by decide +kernel
theorem dX8_number_64 : decode cX8_number 64 = .ok (.iconst 1, 1) := by decide +kernel
theorem dX8_number_65 : decode cX8_number 65 = .ok (.iadd, 1) := by decide +kernel
theorem dX8_number_66 : decode cX8_number 66 = .ok (.putfield 25, 3) := by decide +kernel
theorem dX8_number_69 : decode cX8_number 69 = .ok (.goto (-61), 3) := by decide +kernel
theorem dX8_number_72 : decode cX8_number 72 = .ok (.aload_n 0, 1) := by decide +kernel
theorem dX8_number_73 : decode cX8_number 73 = .ok (.getfield 25, 3) := by decide +kernel
theorem dX8_number_76 : decode cX8_number 76 = .ok (.iload_n 3, 1) := by decide +kernel
theorem dX8_number_77 : decode cX8_number 77 = .ok (.if_icmp .ne 12, 3) := by decide +kernel
theorem dX8_number_80 : decode cX8_number 80 = .ok (.aload_n 0, 1) := by decide +kernel
theorem dX8_number_81 : decode cX8_number 81 = .ok (.iconst 1, 1) := by decide +kernel
theorem dX8_number_82 : decode cX8_number 82 = .ok (.iload_n 3, 1) := by decide +kernel
theorem dX8_number_83 : decode cX8_number 83 = .ok (.invokevirtual 43, 3) := by decide +kernel
theorem dX8_number_86 : decode cX8_number 86 = .ok (.pop, 1) := by decide +kernel
theorem dX8_number_87 : decode cX8_number 87 = .ok (.iconst (-1), 1) := by decide +kernel
theorem dX8_number_88 : decode cX8_number 88 = .ok (.ireturn, 1) := by decide +kernel
theorem dX8_number_89 : decode cX8_number 89 = .ok (.iload 4, 2) := by decide +kernel
theorem dX8_number_91 : decode cX8_number 91 = .ok (.iload_n 1, 1) := by decide +kernel
theorem dX8_number_92 : decode cX8_number 92 = .ok (.if_icmp .lt 9, 3) := by decide +kernel
theorem dX8_number_95 : decode cX8_number 95 = .ok (.iload 4, 2) := by decide +kernel
theorem dX8_number_97 : decode cX8_number 97 = .ok (.iload_n 2, 1) := by decide +kernel
theorem dX8_number_98 : decode cX8_number 98 = .ok (.if_icmp .le 12, 3) := by decide +kernel
theorem dX8_number_101 : decode cX8_number 101 = .ok (.aload_n 0, 1) := by decide +kernel
theorem dX8_number_102 : decode cX8_number 102 = .ok (.iconst 2, 1) := by decide +kernel
theorem dX8_number_103 : decode cX8_number 103 = .ok (.iload_n 3, 1) := by decide +kernel
theorem dX8_number_104 : decode cX8_number 104 = .ok (.invokevirtual 43, 3) := by decide +kernel
theorem dX8_number_107 : decode cX8_number 107 = .ok (.pop, 1) := by decide +kernel
theorem dX8_number_108 : decode cX8_number 108 = .ok (.iconst (-1), 1) := by decide +kernel
theorem dX8_number_109 : decode cX8_number 109 = .ok (.ireturn, 1) := by decide +kernel
theorem dX8_number_110 : decode cX8_number 110 = .ok (.iload 4, 2) := by decide +kernel
theorem dX8_number_112 : decode cX8_number 112 = .ok (.ireturn, 1) := by decide +kernel
theorem dX8_sees_0 : decode cX8_sees 0 = .ok (.aload_n 0, 1) := by decide +kernel
theorem dX8_sees_1 : decode cX8_sees 1 = .ok (.invokevirtual 31, 3) := by decide +kernel
theorem dX8_sees_4 : decode cX8_sees 4 = .ok (.aload_n 0, 1) := by decide +kernel
theorem dX8_sees_5 : decode cX8_sees 5 = .ok (.getfield 22, 3) := by decide +kernel
theorem dX8_sees_8 : decode cX8_sees 8 = .ok (.if_icmp .ge 20, 3) := by decide +kernel
theorem dX8_sees_11 : decode cX8_sees 11 = .ok (.aload_n 0, 1) := by decide +kernel
theorem dX8_sees_12 : decode cX8_sees 12 = .ok (.getfield 9, 3) := by decide +kernel
theorem dX8_sees_15 : decode cX8_sees 15 = .ok (.aload_n 0, 1) := by decide +kernel
theorem dX8_sees_16 : decode cX8_sees 16 = .ok (.getfield 25, 3) := by decide +kernel
theorem dX8_sees_19 : decode cX8_sees 19 = .ok (.iaload, 1) := by decide +kernel
theorem dX8_sees_20 : decode cX8_sees 20 = .ok (.iload_n 1, 1) := by decide +kernel
theorem dX8_sees_21 : decode cX8_sees 21 = .ok (.if_icmp .ne 7, 3) := by decide +kernel
theorem dX8_sees_24 : decode cX8_sees 24 = .ok (.iconst 1, 1) := by decide +kernel
theorem dX8_sees_25 : decode cX8_sees 25 = .ok (.goto 4, 3) := by decide +kernel
theorem dX8_sees_28 : decode cX8_sees 28 = .ok (.iconst 0, 1) := by decide +kernel
theorem dX8_sees_29 : decode cX8_sees 29 = .ok (.ireturn, 1) := by decide +kernel
theorem dX8_isDigit_0 : decode cX8_isDigit 0 = .ok (.iload_n 0, 1) := by decide +kernel
theorem dX8_isDigit_1 : decode cX8_isDigit 1 = .ok (.bipush 48, 2) := by decide +kernel
theorem dX8_isDigit_3 : decode cX8_isDigit 3 = .ok (.if_icmp .lt 13, 3) := by decide +kernel
theorem dX8_isDigit_6 : decode cX8_isDigit 6 = .ok (.iload_n 0, 1) := by decide +kernel
theorem dX8_isDigit_7 : decode cX8_isDigit 7 = .ok (.bipush 57, 2) := by decide +kernel
theorem dX8_isDigit_9 : decode cX8_isDigit 9 = .ok (.if_icmp .gt 7, 3) := by decide +kernel
theorem dX8_isDigit_12 : decode cX8_isDigit 12 = .ok (.iconst 1, 1) := by decide +kernel
theorem dX8_isDigit_13 : decode cX8_isDigit 13 = .ok (.goto 4, 3) := by decide +kernel
theorem dX8_isDigit_16 : decode cX8_isDigit 16 = .ok (.iconst 0, 1) := by decide +kernel
theorem dX8_isDigit_17 : decode cX8_isDigit 17 = .ok (.ireturn, 1) := by decide +kernel
theorem dX8_isWhole_0 : decode cX8_isWhole 0 = .ok (.aload_n 0, 1) := by decide +kernel
theorem dX8_isWhole_1 : decode cX8_isWhole 1 = .ok (.getfield 28, 3) := by decide +kernel
theorem dX8_isWhole_4 : decode cX8_isWhole 4 = .ok (.ifCond .ne 7, 3) := by decide +kernel
theorem dX8_isWhole_7 : decode cX8_isWhole 7 = .ok (.iconst 1, 1) := by decide +kernel
theorem dX8_isWhole_8 : decode cX8_isWhole 8 = .ok (.goto 4, 3) := by decide +kernel
theorem dX8_isWhole_11 : decode cX8_isWhole 11 = .ok (.iconst 0, 1) := by decide +kernel
theorem dX8_isWhole_12 : decode cX8_isWhole 12 = .ok (.ireturn, 1) := by decide +kernel
theorem dX7_copyFrom_0 : decode cX7_copyFrom 0 = .ok (.aload_n 0, 1) := by decide +kernel
theorem dX7_copyFrom_1 : decode cX7_copyFrom 1 = .ok (.aload_n 1, 1) := by decide +kernel
theorem dX7_copyFrom_2 : decode cX7_copyFrom 2 = .ok (.getfield 18, 3) := by decide +kernel
theorem dX7_copyFrom_5 : decode cX7_copyFrom 5 = .ok (.putfield 18, 3) := by decide +kernel
theorem dX7_copyFrom_8 : decode cX7_copyFrom 8 = .ok (.iconst 0, 1) := by decide +kernel
theorem dX7_copyFrom_9 : decode cX7_copyFrom 9 = .ok (.istore_n 2, 1) := by decide +kernel
theorem dX7_copyFrom_10 : decode cX7_copyFrom 10 = .ok (.iload_n 2, 1) := by decide +kernel
theorem dX7_copyFrom_11 : decode cX7_copyFrom 11 = .ok (.aload_n 0, 1) := by decide +kernel
theorem dX7_copyFrom_12 : decode cX7_copyFrom 12 = .ok (.getfield 18, 3) := by decide +kernel
theorem dX7_copyFrom_15 : decode cX7_copyFrom 15 = .ok (.if_icmp .ge 24, 3) := by decide +kernel
theorem dX7_copyFrom_18 : decode cX7_copyFrom 18 = .ok (.aload_n 0, 1) := by decide +kernel
theorem dX7_copyFrom_19 : decode cX7_copyFrom 19 = .ok (.getfield 11, 3) := by decide +kernel
theorem dX7_copyFrom_22 : decode cX7_copyFrom 22 = .ok (.iload_n 2, 1) := by decide +kernel
theorem dX7_copyFrom_23 : decode cX7_copyFrom 23 = .ok (.aaload, 1) := by decide +kernel
theorem dX7_copyFrom_24 : decode cX7_copyFrom 24 = .ok (.aload_n 1, 1) := by decide +kernel
theorem dX7_copyFrom_25 : decode cX7_copyFrom 25 = .ok (.getfield 11, 3) := by decide +kernel
theorem dX7_copyFrom_28 : decode cX7_copyFrom 28 = .ok (.iload_n 2, 1) := by decide +kernel
theorem dX7_copyFrom_29 : decode cX7_copyFrom 29 = .ok (.aaload, 1) := by decide +kernel
theorem dX7_copyFrom_30 : decode cX7_copyFrom 30 = .ok (.invokevirtual 22, 3) := by decide +kernel
theorem dX7_copyFrom_33 : decode cX7_copyFrom 33 = .ok (.iinc 2 1, 3) := by decide +kernel
theorem dX7_copyFrom_36 : decode cX7_copyFrom 36 = .ok (.goto (-26), 3) := by decide +kernel
theorem dX7_copyFrom_39 : decode cX7_copyFrom 39 = .ok (.return_, 1) := by decide +kernel
theorem dX0_tells_0 : decode cX0_tells 0 = .ok (.iconst 0, 1) := by decide +kernel
theorem dX0_tells_1 : decode cX0_tells 1 = .ok (.istore_n 2, 1) := by decide +kernel
theorem dX0_tells_2 : decode cX0_tells 2 = .ok (.iload_n 2, 1) := by decide +kernel
theorem dX0_tells_3 : decode cX0_tells 3 = .ok (.aload_n 0, 1) := by decide +kernel
theorem dX0_tells_4 : decode cX0_tells 4 = .ok (.getfield 24, 3) := by decide +kernel
theorem dX0_tells_7 : decode cX0_tells 7 = .ok (.if_icmp .ge 21, 3) := by decide +kernel
theorem dX0_tells_10 : decode cX0_tells 10 = .ok (.aload_n 0, 1) := by decide +kernel
theorem dX0_tells_11 : decode cX0_tells 11 = .ok (.getfield 9, 3) := by decide +kernel
theorem dX0_tells_14 : decode cX0_tells 14 = .ok (.iload_n 2, 1) := by decide +kernel
theorem dX0_tells_15 : decode cX0_tells 15 = .ok (.iaload, 1) := by decide +kernel
theorem dX0_tells_16 : decode cX0_tells 16 = .ok (.iload_n 1, 1) := by decide +kernel
theorem dX0_tells_17 : decode cX0_tells 17 = .ok (.if_icmp .ne 5, 3) := by decide +kernel
theorem dX0_tells_20 : decode cX0_tells 20 = .ok (.iconst 1, 1) := by decide +kernel
theorem dX0_tells_21 : decode cX0_tells 21 = .ok (.ireturn, 1) := by decide +kernel
theorem dX0_tells_22 : decode cX0_tells 22 = .ok (.iinc 2 1, 3) := by decide +kernel
theorem dX0_tells_25 : decode cX0_tells 25 = .ok (.goto (-23), 3) := by decide +kernel
theorem dX0_tells_28 : decode cX0_tells 28 = .ok (.iconst 0, 1) := by decide +kernel
theorem dX0_tells_29 : decode cX0_tells 29 = .ok (.ireturn, 1) := by decide +kernel
theorem dX0_readLine_0 : decode cX0_readLine 0 = .ok (.aload_n 1, 1) := by decide +kernel
theorem dX0_readLine_1 : decode cX0_readLine 1 = .ok (.invokevirtual 41, 3) := by decide +kernel
theorem dX0_readLine_4 : decode cX0_readLine 4 = .ok (.istore_n 3, 1) := by decide +kernel
theorem dX0_readLine_5 : decode cX0_readLine 5 = .ok (.aload_n 1, 1) := by decide +kernel
theorem dX0_readLine_6 : decode cX0_readLine 6 = .ok (.iconst 0, 1) := by decide +kernel
theorem dX0_readLine_7 : decode cX0_readLine 7 = .ok (.iload_n 2, 1) := by decide +kernel
theorem dX0_readLine_8 : decode cX0_readLine 8 = .ok (.iconst 1, 1) := by decide +kernel
theorem dX0_readLine_9 : decode cX0_readLine 9 = .ok (.isub, 1) := by decide +kernel
theorem dX0_readLine_10 : decode cX0_readLine 10 = .ok (.invokevirtual 45, 3) := by decide +kernel
theorem dX0_readLine_13 : decode cX0_readLine 13 = .ok (.istore 4, 2) := by decide +kernel
theorem dX0_readLine_15 : decode cX0_readLine 15 = .ok (.aload_n 0, 1) := by decide +kernel
theorem dX0_readLine_16 : decode cX0_readLine 16 = .ok (.getfield 24, 3) := by decide +kernel
theorem dX0_readLine_19 : decode cX0_readLine 19 = .ok (.bipush 8, 2) := by decide +kernel
theorem dX0_readLine_21 : decode cX0_readLine 21 = .ok (.if_icmp .lt 11, 3) := by decide +kernel
theorem dX0_readLine_24 : decode cX0_readLine 24 = .ok (.aload_n 1, 1) := by decide +kernel
theorem dX0_readLine_25 : decode cX0_readLine 25 = .ok (.iconst 3, 1) := by decide +kernel
theorem dX0_readLine_26 : decode cX0_readLine 26 = .ok (.iload_n 3, 1) := by decide +kernel
theorem dX0_readLine_27 : decode cX0_readLine 27 = .ok (.invokevirtual 49, 3) := by decide +kernel
theorem dX0_readLine_30 : decode cX0_readLine 30 = .ok (.pop, 1) := by decide +kernel
theorem dX0_readLine_31 : decode cX0_readLine 31 = .ok (.return_, 1) := by decide +kernel
theorem dX0_readLine_32 : decode cX0_readLine 32 = .ok (.aload_n 0, 1) := by decide +kernel
theorem dX0_readLine_33 : decode cX0_readLine 33 = .ok (.getfield 9, 3) := by decide +kernel
theorem dX0_readLine_36 : decode cX0_readLine 36 = .ok (.aload_n 0, 1) := by decide +kernel
theorem dX0_readLine_37 : decode cX0_readLine 37 = .ok (.getfield 24, 3) := by decide +kernel
theorem dX0_readLine_40 : decode cX0_readLine 40 = .ok (.iload 4, 2) := by decide +kernel
theorem dX0_readLine_42 : decode cX0_readLine 42 = .ok (.iastore, 1) := by decide +kernel
theorem dX0_readLine_43 : decode cX0_readLine 43 = .ok (.aload_n 0, 1) := by decide +kernel
theorem dX0_readLine_44 : decode cX0_readLine 44 = .ok (.getfield 15, 3) := by decide +kernel
theorem dX0_readLine_47 : decode cX0_readLine 47 = .ok (.aload_n 0, 1) := by decide +kernel
theorem dX0_readLine_48 : decode cX0_readLine 48 = .ok (.getfield 24, 3) := by decide +kernel
theorem dX0_readLine_51 : decode cX0_readLine 51 = .ok (.aload_n 1, 1) := by decide +kernel
theorem dX0_readLine_52 : decode cX0_readLine 52 = .ok (.iconst 0, 1) := by decide +kernel
theorem dX0_readLine_53 : decode cX0_readLine 53 = .ok (.sipush 400, 3) := by decide +kernel
theorem dX0_readLine_56 : decode cX0_readLine 56 = .ok (.invokevirtual 45, 3) := by decide +kernel
theorem dX0_readLine_59 : decode cX0_readLine 59 = .ok (.iastore, 1) := by decide +kernel
theorem dX0_readLine_60 : decode cX0_readLine 60 = .ok (.aload_n 0, 1) := by decide +kernel
theorem dX0_readLine_61 : decode cX0_readLine 61 = .ok (.dup, 1) := by decide +kernel
theorem dX0_readLine_62 : decode cX0_readLine 62 = .ok (.getfield 24, 3) := by decide +kernel
theorem dX0_readLine_65 : decode cX0_readLine 65 = .ok (.iconst 1, 1) := by decide +kernel
theorem dX0_readLine_66 : decode cX0_readLine 66 = .ok (.iadd, 1) := by decide +kernel
theorem dX0_readLine_67 : decode cX0_readLine 67 = .ok (.putfield 24, 3) := by decide +kernel
theorem dX0_readLine_70 : decode cX0_readLine 70 = .ok (.aload_n 1, 1) := by decide +kernel
theorem dX0_readLine_71 : decode cX0_readLine 71 = .ok (.bipush 59, 2) := by decide +kernel
theorem dX0_readLine_73 : decode cX0_readLine 73 = .ok (.invokevirtual 53, 3) := by decide +kernel
theorem dX0_readLine_76 : decode cX0_readLine 76 = .ok (.pop, 1) := by decide +kernel
theorem dX0_readLine_77 : decode cX0_readLine 77 = .ok (.return_, 1) := by decide +kernel
theorem dX8_seesDigit_0 : decode cX8_seesDigit 0 = .ok (.aload_n 0, 1) := by decide +kernel
theorem dX8_seesDigit_1 : decode cX8_seesDigit 1 = .ok (.invokevirtual 31, 3) := by decide +kernel
theorem dX8_seesDigit_4 : decode cX8_seesDigit 4 = .ok (.aload_n 0, 1) := by decide +kernel
theorem dX8_seesDigit_5 : decode cX8_seesDigit 5 = .ok (.getfield 22, 3) := by decide +kernel
theorem dX8_seesDigit_8 : decode cX8_seesDigit 8 = .ok (.if_icmp .ge 22, 3) := by decide +kernel
theorem dX8_seesDigit_11 : decode cX8_seesDigit 11 = .ok (.aload_n 0, 1) := by decide +kernel
theorem dX8_seesDigit_12 : decode cX8_seesDigit 12 = .ok (.getfield 9, 3) := by decide +kernel
theorem dX8_seesDigit_15 : decode cX8_seesDigit 15 = .ok (.aload_n 0, 1) := by decide +kernel
theorem dX8_seesDigit_16 : decode cX8_seesDigit 16 = .ok (.getfield 25, 3) := by decide +kernel
theorem dX8_seesDigit_19 : decode cX8_seesDigit 19 = .ok (.iaload, 1) := by decide +kernel
theorem dX8_seesDigit_20 : decode cX8_seesDigit 20 = .ok (.invokestatic 35, 3) := by decide +kernel
theorem dX8_seesDigit_23 : decode cX8_seesDigit 23 = .ok (.ifCond .eq 7, 3) := by decide +kernel
theorem dX8_seesDigit_26 : decode cX8_seesDigit 26 = .ok (.iconst 1, 1) := by decide +kernel
theorem dX8_seesDigit_27 : decode cX8_seesDigit 27 = .ok (.goto 4, 3) := by decide +kernel
theorem dX8_seesDigit_30 : decode cX8_seesDigit 30 = .ok (.iconst 0, 1) := by decide +kernel
theorem dX8_seesDigit_31 : decode cX8_seesDigit 31 = .ok (.ireturn, 1) := by decide +kernel
theorem dX4_becomePlain_0 : decode cX4_becomePlain 0 = .ok (.aload_n 0, 1) := by decide +kernel
theorem dX4_becomePlain_1 : decode cX4_becomePlain 1 = .ok (.getfield 9, 3) := by decide +kernel
theorem dX4_becomePlain_4 : decode cX4_becomePlain 4 = .ok (.iconst 0, 1) := by decide +kernel
theorem dX4_becomePlain_5 : decode cX4_becomePlain 5 = .ok (.sipush 1000, 3) := by decide +kernel
theorem dX4_becomePlain_8 : decode cX4_becomePlain 8 = .ok (.iastore, 1) := by decide +kernel
theorem dX4_becomePlain_9 : decode cX4_becomePlain 9 = .ok (.aload_n 0, 1) := by decide +kernel
theorem dX4_becomePlain_10 : decode cX4_becomePlain 10 = .ok (.getfield 9, 3) := by decide +kernel
theorem dX4_becomePlain_13 : decode cX4_becomePlain 13 = .ok (.iconst 1, 1) := by decide +kernel
theorem dX4_becomePlain_14 : decode cX4_becomePlain 14 = .ok (.iconst 1, 1) := by decide +kernel
theorem dX4_becomePlain_15 : decode cX4_becomePlain 15 = .ok (.iastore, 1) := by decide +kernel
theorem dX4_becomePlain_16 : decode cX4_becomePlain 16 = .ok (.aload_n 0, 1) := by decide +kernel
theorem dX4_becomePlain_17 : decode cX4_becomePlain 17 = .ok (.getfield 9, 3) := by decide +kernel
theorem dX4_becomePlain_20 : decode cX4_becomePlain 20 = .ok (.iconst 2, 1) := by decide +kernel
theorem dX4_becomePlain_21 : decode cX4_becomePlain 21 = .ok (.sipush 1100, 3) := by decide +kernel
theorem dX4_becomePlain_24 : decode cX4_becomePlain 24 = .ok (.iastore, 1) := by decide +kernel
theorem dX4_becomePlain_25 : decode cX4_becomePlain 25 = .ok (.aload_n 0, 1) := by decide +kernel
theorem dX4_becomePlain_26 : decode cX4_becomePlain 26 = .ok (.getfield 9, 3) := by decide +kernel
theorem dX4_becomePlain_29 : decode cX4_becomePlain 29 = .ok (.iconst 3, 1) := by decide +kernel
theorem dX4_becomePlain_30 : decode cX4_becomePlain 30 = .ok (.sipush 1002, 3) := by decide +kernel
theorem dX4_becomePlain_33 : decode cX4_becomePlain 33 = .ok (.iastore, 1) := by decide +kernel
theorem dX4_becomePlain_34 : decode cX4_becomePlain 34 = .ok (.aload_n 0, 1) := by decide +kernel
theorem dX4_becomePlain_35 : decode cX4_becomePlain 35 = .ok (.getfield 9, 3) := by decide +kernel
theorem dX4_becomePlain_38 : decode cX4_becomePlain 38 = .ok (.iconst 4, 1) := by decide +kernel
theorem dX4_becomePlain_39 : decode cX4_becomePlain 39 = .ok (.sipush 1102, 3) := by decide +kernel
theorem dX4_becomePlain_42 : decode cX4_becomePlain 42 = .ok (.iastore, 1) := by decide +kernel
theorem dX4_becomePlain_43 : decode cX4_becomePlain 43 = .ok (.aload_n 0, 1) := by decide +kernel
theorem dX4_becomePlain_44 : decode cX4_becomePlain 44 = .ok (.iconst 5, 1) := by decide +kernel
theorem dX4_becomePlain_45 : decode cX4_becomePlain 45 = .ok (.putfield 21, 3) := by decide +kernel
theorem dX4_becomePlain_48 : decode cX4_becomePlain 48 = .ok (.return_, 1) := by decide +kernel
theorem dX1_readFellow_0 : decode cX1_readFellow 0 = .ok (.iconst 0, 1) := by decide +kernel
theorem dX1_readFellow_1 : decode cX1_readFellow 1 = .ok (.istore_n 2, 1) := by decide +kernel
theorem dX1_readFellow_2 : decode cX1_readFellow 2 = .ok (.iload_n 2, 1) := by decide +kernel
theorem dX1_readFellow_3 : decode cX1_readFellow 3 = .ok (.bipush 7, 2) := by decide +kernel
theorem dX1_readFellow_5 : decode cX1_readFellow 5 = .ok (.if_icmp .ge 30, 3) := by decide +kernel
theorem dX1_readFellow_8 : decode cX1_readFellow 8 = .ok (.aload_n 0, 1) := by decide +kernel
theorem dX1_readFellow_9 : decode cX1_readFellow 9 = .ok (.getfield 9, 3) := by decide +kernel
theorem dX1_readFellow_12 : decode cX1_readFellow 12 = .ok (.aload_n 0, 1) := by decide +kernel
theorem dX1_readFellow_13 : decode cX1_readFellow 13 = .ok (.getfield 31, 3) := by decide +kernel
theorem dX1_readFellow_16 : decode cX1_readFellow 16 = .ok (.bipush 7, 2) := by decide +kernel
theorem dX1_readFellow_18 : decode cX1_readFellow 18 = .ok (.imul, 1) := by decide +kernel
theorem dX1_readFellow_19 : decode cX1_readFellow 19 = .ok (.iload_n 2, 1) := by decide +kernel
theorem dX1_readFellow_20 : decode cX1_readFellow 20 = .ok (.iadd, 1) := by decide +kernel
theorem dX1_readFellow_21 : decode cX1_readFellow 21 = .ok (.aload_n 1, 1) := by decide +kernel
theorem dX1_readFellow_22 : decode cX1_readFellow 22 = .ok (.iconst 0, 1) := by decide +kernel
theorem dX1_readFellow_23 : decode cX1_readFellow 23 = .ok (.bipush 40, 2) := by decide +kernel
theorem dX1_readFellow_25 : decode cX1_readFellow 25 = .ok (.invokevirtual 74, 3) := by decide +kernel
theorem dX1_readFellow_28 : decode cX1_readFellow 28 = .ok (.iastore, 1) := by decide +kernel
theorem dX1_readFellow_29 : decode cX1_readFellow 29 = .ok (.iinc 2 1, 3) := by decide +kernel
theorem dX1_readFellow_32 : decode cX1_readFellow 32 = .ok (.goto (-30), 3) := by decide +kernel
theorem dX1_readFellow_35 : decode cX1_readFellow 35 = .ok (.aload_n 0, 1) := by decide +kernel
theorem dX1_readFellow_36 : decode cX1_readFellow 36 = .ok (.dup, 1) := by decide +kernel
theorem dX1_readFellow_37 : decode cX1_readFellow 37 = .ok (.getfield 31, 3) := by decide +kernel
theorem dX1_readFellow_40 : decode cX1_readFellow 40 = .ok (.iconst 1, 1) := by decide +kernel
theorem dX1_readFellow_41 : decode cX1_readFellow 41 = .ok (.iadd, 1) := by decide +kernel
theorem dX1_readFellow_42 : decode cX1_readFellow 42 = .ok (.putfield 31, 3) := by decide +kernel
theorem dX1_readFellow_45 : decode cX1_readFellow 45 = .ok (.return_, 1) := by decide +kernel
theorem dX8_fail_0 : decode cX8_fail 0 = .ok (.aload_n 0, 1) := by decide +kernel
theorem dX8_fail_1 : decode cX8_fail 1 = .ok (.getfield 28, 3) := by decide +kernel
theorem dX8_fail_4 : decode cX8_fail 4 = .ok (.ifCond .ne 13, 3) := by decide +kernel
theorem dX8_fail_7 : decode cX8_fail 7 = .ok (.aload_n 0, 1) := by decide +kernel
theorem dX8_fail_8 : decode cX8_fail 8 = .ok (.iload_n 1, 1) := by decide +kernel
theorem dX8_fail_9 : decode cX8_fail 9 = .ok (.putfield 28, 3) := by decide +kernel
theorem dX8_fail_12 : decode cX8_fail 12 = .ok (.aload_n 0, 1) := by decide +kernel
theorem dX8_fail_13 : decode cX8_fail 13 = .ok (.iload_n 2, 1) := by decide +kernel
theorem dX8_fail_14 : decode cX8_fail 14 = .ok (.putfield 15, 3) := by decide +kernel
theorem dX8_fail_17 : decode cX8_fail 17 = .ok (.iconst 0, 1) := by decide +kernel
theorem dX8_fail_18 : decode cX8_fail 18 = .ok (.ireturn, 1) := by decide +kernel
theorem dX8_takes_0 : decode cX8_takes 0 = .ok (.aload_n 0, 1) := by decide +kernel
theorem dX8_takes_1 : decode cX8_takes 1 = .ok (.invokevirtual 31, 3) := by decide +kernel
theorem dX8_takes_4 : decode cX8_takes 4 = .ok (.aload_n 0, 1) := by decide +kernel
theorem dX8_takes_5 : decode cX8_takes 5 = .ok (.getfield 22, 3) := by decide +kernel
theorem dX8_takes_8 : decode cX8_takes 8 = .ok (.if_icmp .ge 16, 3) := by decide +kernel
theorem dX8_takes_11 : decode cX8_takes 11 = .ok (.aload_n 0, 1) := by decide +kernel
theorem dX8_takes_12 : decode cX8_takes 12 = .ok (.getfield 9, 3) := by decide +kernel
theorem dX8_takes_15 : decode cX8_takes 15 = .ok (.aload_n 0, 1) := by decide +kernel
theorem dX8_takes_16 : decode cX8_takes 16 = .ok (.getfield 25, 3) := by decide +kernel
theorem dX8_takes_19 : decode cX8_takes 19 = .ok (.iaload, 1) := by decide +kernel
theorem dX8_takes_20 : decode cX8_takes 20 = .ok (.iload_n 1, 1) := by decide +kernel
theorem dX8_takes_21 : decode cX8_takes 21 = .ok (.if_icmp .eq 5, 3) := by decide +kernel
theorem dX8_takes_24 : decode cX8_takes 24 = .ok (.iconst 0, 1) := by decide +kernel
theorem dX8_takes_25 : decode cX8_takes 25 = .ok (.ireturn, 1) := by decide +kernel
theorem dX8_takes_26 : decode cX8_takes 26 = .ok (.aload_n 0, 1) := by decide +kernel
theorem dX8_takes_27 : decode cX8_takes 27 = .ok (.dup, 1) := by decide +kernel
theorem dX8_takes_28 : decode cX8_takes 28 = .ok (.getfield 25, 3) := by decide +kernel
theorem dX8_takes_31 : decode cX8_takes 31 = .ok (.iconst 1, 1) := by decide +kernel
theorem dX8_takes_32 : decode cX8_takes 32 = .ok (.iadd, 1) := by decide +kernel
theorem dX8_takes_33 : decode cX8_takes 33 = .ok (.putfield 25, 3) := by decide +kernel
theorem dX8_takes_36 : decode cX8_takes 36 = .ok (.iconst 1, 1) := by decide +kernel
theorem dX8_takes_37 : decode cX8_takes 37 = .ok (.ireturn, 1) := by decide +kernel
theorem dX7_push_0 : decode cX7_push 0 = .ok (.aload_n 0, 1) := by decide +kernel
theorem dX7_push_1 : decode cX7_push 1 = .ok (.getfield 18, 3) := by decide +kernel
theorem dX7_push_4 : decode cX7_push 4 = .ok (.bipush 16, 2) := by decide +kernel
theorem dX7_push_6 : decode cX7_push 6 = .ok (.if_icmp .ge 26, 3) := by decide +kernel
theorem dX7_push_9 : decode cX7_push 9 = .ok (.aload_n 0, 1) := by decide +kernel
theorem dX7_push_10 : decode cX7_push 10 = .ok (.getfield 11, 3) := by decide +kernel
theorem dX7_push_13 : decode cX7_push 13 = .ok (.aload_n 0, 1) := by decide +kernel
theorem dX7_push_14 : decode cX7_push 14 = .ok (.getfield 18, 3) := by decide +kernel
theorem dX7_push_17 : decode cX7_push 17 = .ok (.aaload, 1) := by decide +kernel
theorem dX7_push_18 : decode cX7_push 18 = .ok (.aload_n 1, 1) := by decide +kernel
theorem dX7_push_19 : decode cX7_push 19 = .ok (.invokevirtual 22, 3) := by decide +kernel
theorem dX7_push_22 : decode cX7_push 22 = .ok (.aload_n 0, 1) := by decide +kernel
theorem dX7_push_23 : decode cX7_push 23 = .ok (.dup, 1) := by decide +kernel
theorem dX7_push_24 : decode cX7_push 24 = .ok (.getfield 18, 3) := by decide +kernel
theorem dX7_push_27 : decode cX7_push 27 = .ok (.iconst 1, 1) := by decide +kernel
theorem dX7_push_28 : decode cX7_push 28 = .ok (.iadd, 1) := by decide +kernel
theorem dX7_push_29 : decode cX7_push 29 = .ok (.putfield 18, 3) := by decide +kernel
theorem dX7_push_32 : decode cX7_push 32 = .ok (.return_, 1) := by decide +kernel
theorem dX1_parts_0 : decode cX1_parts 0 = .ok (.aload_n 0, 1) := by decide +kernel
theorem dX1_parts_1 : decode cX1_parts 1 = .ok (.getfield 18, 3) := by decide +kernel
theorem dX1_parts_4 : decode cX1_parts 4 = .ok (.iload_n 1, 1) := by decide +kernel
theorem dX1_parts_5 : decode cX1_parts 5 = .ok (.iaload, 1) := by decide +kernel
theorem dX1_parts_6 : decode cX1_parts 6 = .ok (.ifCond .ne 7, 3) := by decide +kernel
theorem dX1_parts_9 : decode cX1_parts 9 = .ok (.iconst 1, 1) := by decide +kernel
theorem dX1_parts_10 : decode cX1_parts 10 = .ok (.goto 4, 3) := by decide +kernel
theorem dX1_parts_13 : decode cX1_parts 13 = .ok (.iconst 0, 1) := by decide +kernel
theorem dX1_parts_14 : decode cX1_parts 14 = .ok (.ireturn, 1) := by decide +kernel
theorem dX0_copyFrom_0 : decode cX0_copyFrom 0 = .ok (.aload_n 1, 1) := by decide +kernel
theorem dX0_copyFrom_1 : decode cX0_copyFrom 1 = .ok (.getfield 9, 3) := by decide +kernel
theorem dX0_copyFrom_4 : decode cX0_copyFrom 4 = .ok (.iconst 0, 1) := by decide +kernel
theorem dX0_copyFrom_5 : decode cX0_copyFrom 5 = .ok (.aload_n 0, 1) := by decide +kernel
theorem dX0_copyFrom_6 : decode cX0_copyFrom 6 = .ok (.getfield 9, 3) := by decide +kernel
theorem dX0_copyFrom_9 : decode cX0_copyFrom 9 = .ok (.iconst 0, 1) := by decide +kernel
theorem dX0_copyFrom_10 : decode cX0_copyFrom 10 = .ok (.bipush 8, 2) := by decide +kernel
theorem dX0_copyFrom_12 : decode cX0_copyFrom 12 = .ok (.invokestatic 18, 3) := by decide +kernel
theorem dX0_copyFrom_15 : decode cX0_copyFrom 15 = .ok (.aload_n 1, 1) := by decide +kernel
theorem dX0_copyFrom_16 : decode cX0_copyFrom 16 = .ok (.getfield 15, 3) := by decide +kernel
theorem dX0_copyFrom_19 : decode cX0_copyFrom 19 = .ok (.iconst 0, 1) := by decide +kernel
theorem dX0_copyFrom_20 : decode cX0_copyFrom 20 = .ok (.aload_n 0, 1) := by decide +kernel
theorem dX0_copyFrom_21 : decode cX0_copyFrom 21 = .ok (.getfield 15, 3) := by decide +kernel
theorem dX0_copyFrom_24 : decode cX0_copyFrom 24 = .ok (.iconst 0, 1) := by decide +kernel
theorem dX0_copyFrom_25 : decode cX0_copyFrom 25 = .ok (.bipush 8, 2) := by decide +kernel
theorem dX0_copyFrom_27 : decode cX0_copyFrom 27 = .ok (.invokestatic 18, 3) := by decide +kernel
theorem dX0_copyFrom_30 : decode cX0_copyFrom 30 = .ok (.aload_n 0, 1) := by decide +kernel
theorem dX0_copyFrom_31 : decode cX0_copyFrom 31 = .ok (.aload_n 1, 1) := by decide +kernel
theorem dX0_copyFrom_32 : decode cX0_copyFrom 32 = .ok (.getfield 24, 3) := by decide +kernel
theorem dX0_copyFrom_35 : decode cX0_copyFrom 35 = .ok (.putfield 24, 3) := by decide +kernel
theorem dX0_copyFrom_38 : decode cX0_copyFrom 38 = .ok (.return_, 1) := by decide +kernel
theorem dX8_put_0 : decode cX8_put 0 = .ok (.bipush 24, 2) := by decide +kernel
theorem dX8_put_2 : decode cX8_put 2 = .ok (.istore_n 2, 1) := by decide +kernel
theorem dX8_put_3 : decode cX8_put 3 = .ok (.iload_n 2, 1) := by decide +kernel
theorem dX8_put_4 : decode cX8_put 4 = .ok (.ifCond .lt 45, 3) := by decide +kernel
theorem dX8_put_7 : decode cX8_put 7 = .ok (.aload_n 0, 1) := by decide +kernel
theorem dX8_put_8 : decode cX8_put 8 = .ok (.getfield 19, 3) := by decide +kernel
theorem dX8_put_11 : decode cX8_put 11 = .ok (.sipush 600, 3) := by decide +kernel
theorem dX8_put_14 : decode cX8_put 14 = .ok (.if_icmp .ge 35, 3) := by decide +kernel
theorem dX8_put_17 : decode cX8_put 17 = .ok (.aload_n 0, 1) := by decide +kernel
theorem dX8_put_18 : decode cX8_put 18 = .ok (.getfield 9, 3) := by decide +kernel
theorem dX8_put_21 : decode cX8_put 21 = .ok (.aload_n 0, 1) := by decide +kernel
theorem dX8_put_22 : decode cX8_put 22 = .ok (.getfield 19, 3) := by decide +kernel
theorem dX8_put_25 : decode cX8_put 25 = .ok (.iload_n 1, 1) := by decide +kernel
theorem dX8_put_26 : decode cX8_put 26 = .ok (.iload_n 2, 1) := by decide +kernel
theorem dX8_put_27 : decode cX8_put 27 = .ok (.iushr, 1) := by decide +kernel
theorem dX8_put_28 : decode cX8_put 28 = .ok (.sipush 255, 3) := by decide +kernel
theorem dX8_put_31 : decode cX8_put 31 = .ok (.iand, 1) := by decide +kernel
theorem dX8_put_32 : decode cX8_put 32 = .ok (.iastore, 1) := by decide +kernel
theorem dX8_put_33 : decode cX8_put 33 = .ok (.aload_n 0, 1) := by decide +kernel
theorem dX8_put_34 : decode cX8_put 34 = .ok (.dup, 1) := by decide +kernel
theorem dX8_put_35 : decode cX8_put 35 = .ok (.getfield 19, 3) := by decide +kernel
theorem dX8_put_38 : decode cX8_put 38 = .ok (.iconst 1, 1) := by decide +kernel
theorem dX8_put_39 : decode cX8_put 39 = .ok (.iadd, 1) := by decide +kernel
theorem dX8_put_40 : decode cX8_put 40 = .ok (.putfield 19, 3) := by decide +kernel
theorem dX8_put_43 : decode cX8_put 43 = .ok (.iinc 2 (-8), 3) := by decide +kernel
theorem dX8_put_46 : decode cX8_put 46 = .ok (.goto (-43), 3) := by decide +kernel
theorem dX8_put_49 : decode cX8_put 49 = .ok (.return_, 1) := by decide +kernel
theorem dX4_valueFor_0 : decode cX4_valueFor 0 = .ok (.iconst 0, 1) := by decide +kernel
theorem dX4_valueFor_1 : decode cX4_valueFor 1 = .ok (.istore_n 2, 1) := by decide +kernel
theorem dX4_valueFor_2 : decode cX4_valueFor 2 = .ok (.iconst 0, 1) := by decide +kernel
theorem dX4_valueFor_3 : decode cX4_valueFor 3 = .ok (.istore_n 3, 1) := by decide +kernel
theorem dX4_valueFor_4 : decode cX4_valueFor 4 = .ok (.iload_n 3, 1) := by decide +kernel
theorem dX4_valueFor_5 : decode cX4_valueFor 5 = .ok (.aload_n 0, 1) := by decide +kernel
theorem dX4_valueFor_6 : decode cX4_valueFor 6 = .ok (.getfield 21, 3) := by decide +kernel
theorem dX4_valueFor_9 : decode cX4_valueFor 9 = .ok (.if_icmp .ge 106, 3) := by decide +kernel
theorem dX4_valueFor_12 : decode cX4_valueFor 12 = .ok (.aload_n 0, 1) := by decide +kernel
theorem dX4_valueFor_13 : decode cX4_valueFor 13 = .ok (.getfield 9, 3) := by decide +kernel
theorem dX4_valueFor_16 : decode cX4_valueFor 16 = .ok (.iload_n 3, 1) := by decide +kernel
theorem dX4_valueFor_17 : decode cX4_valueFor 17 = .ok (.iaload, 1) := by decide +kernel
theorem dX4_valueFor_18 : decode cX4_valueFor 18 = .ok (.istore 4, 2) := by decide +kernel
theorem dX4_valueFor_20 : decode cX4_valueFor 20 = .ok (.iload 4, 2) := by decide +kernel
theorem dX4_valueFor_22 : decode cX4_valueFor 22 = .ok (.sipush 1100, 3) := by decide +kernel
theorem dX4_valueFor_25 : decode cX4_valueFor 25 = .ok (.if_icmp .ge 47, 3) := by decide +kernel
theorem dX4_valueFor_28 : decode cX4_valueFor 28 = .ok (.iload_n 2, 1) := by decide +kernel
theorem dX4_valueFor_29 : decode cX4_valueFor 29 = .ok (.aload_n 0, 1) := by decide +kernel
theorem dX4_valueFor_30 : decode cX4_valueFor 30 = .ok (.getfield 15, 3) := by decide +kernel
theorem dX4_valueFor_33 : decode cX4_valueFor 33 = .ok (.arraylength, 1) := by decide +kernel
theorem dX4_valueFor_34 : decode cX4_valueFor 34 = .ok (.if_icmp .lt 5, 3) := by decide +kernel
theorem dX4_valueFor_37 : decode cX4_valueFor 37 = .ok (.iconst 0, 1) := by decide +kernel
theorem dX4_valueFor_38 : decode cX4_valueFor 38 = .ok (.ireturn, 1) := by decide +kernel
theorem dX4_valueFor_39 : decode cX4_valueFor 39 = .ok (.aload_n 0, 1) := by decide +kernel
theorem dX4_valueFor_40 : decode cX4_valueFor 40 = .ok (.getfield 15, 3) := by decide +kernel
theorem dX4_valueFor_43 : decode cX4_valueFor 43 = .ok (.iload_n 2, 1) := by decide +kernel
theorem dX4_valueFor_44 : decode cX4_valueFor 44 = .ok (.iload 4, 2) := by decide +kernel
theorem dX4_valueFor_46 : decode cX4_valueFor 46 = .ok (.sipush 1000, 3) := by decide +kernel
theorem dX4_valueFor_49 : decode cX4_valueFor 49 = .ok (.if_icmp .ge 8, 3) := by decide +kernel
theorem dX4_valueFor_52 : decode cX4_valueFor 52 = .ok (.iload 4, 2) := by decide +kernel
theorem dX4_valueFor_54 : decode cX4_valueFor 54 = .ok (.goto 11, 3) := by decide +kernel
theorem dX4_valueFor_57 : decode cX4_valueFor 57 = .ok (.aload_n 1, 1) := by decide +kernel
theorem dX4_valueFor_58 : decode cX4_valueFor 58 = .ok (.iload 4, 2) := by decide +kernel
theorem dX4_valueFor_60 : decode cX4_valueFor 60 = .ok (.sipush 1000, 3) := by decide +kernel
theorem dX4_valueFor_63 : decode cX4_valueFor 63 = .ok (.isub, 1) := by decide +kernel
theorem dX4_valueFor_64 : decode cX4_valueFor 64 = .ok (.iaload, 1) := by decide +kernel
theorem dX4_valueFor_65 : decode cX4_valueFor 65 = .ok (.iastore, 1) := by decide +kernel
theorem dX4_valueFor_66 : decode cX4_valueFor 66 = .ok (.iinc 2 1, 3) := by decide +kernel
theorem dX4_valueFor_69 : decode cX4_valueFor 69 = .ok (.goto 40, 3) := by decide +kernel
theorem dX4_valueFor_72 : decode cX4_valueFor 72 = .ok (.iload_n 2, 1) := by decide +kernel
theorem dX4_valueFor_73 : decode cX4_valueFor 73 = .ok (.iconst 2, 1) := by decide +kernel
theorem dX4_valueFor_74 : decode cX4_valueFor 74 = .ok (.if_icmp .ge 5, 3) := by decide +kernel
theorem dX4_valueFor_77 : decode cX4_valueFor 77 = .ok (.iconst 0, 1) := by decide +kernel
theorem dX4_valueFor_78 : decode cX4_valueFor 78 = .ok (.ireturn, 1) := by decide +kernel
theorem dX4_valueFor_79 : decode cX4_valueFor 79 = .ok (.iinc 2 (-1), 3) := by decide +kernel
theorem dX4_valueFor_82 : decode cX4_valueFor 82 = .ok (.aload_n 0, 1) := by decide +kernel
theorem dX4_valueFor_83 : decode cX4_valueFor 83 = .ok (.getfield 15, 3) := by decide +kernel
theorem dX4_valueFor_86 : decode cX4_valueFor 86 = .ok (.iload_n 2, 1) := by decide +kernel
theorem dX4_valueFor_87 : decode cX4_valueFor 87 = .ok (.iconst 1, 1) := by decide +kernel
theorem dX4_valueFor_88 : decode cX4_valueFor 88 = .ok (.isub, 1) := by decide +kernel
theorem dX4_valueFor_89 : decode cX4_valueFor 89 = .ok (.iload 4, 2) := by decide +kernel
theorem dX4_valueFor_91 : decode cX4_valueFor 91 = .ok (.aload_n 0, 1) := by decide +kernel
theorem dX4_valueFor_92 : decode cX4_valueFor 92 = .ok (.getfield 15, 3) := by decide +kernel
theorem dX4_valueFor_95 : decode cX4_valueFor 95 = .ok (.iload_n 2, 1) := by decide +kernel
theorem dX4_valueFor_96 : decode cX4_valueFor 96 = .ok (.iconst 1, 1) := by decide +kernel
theorem dX4_valueFor_97 : decode cX4_valueFor 97 = .ok (.isub, 1) := by decide +kernel
theorem dX4_valueFor_98 : decode cX4_valueFor 98 = .ok (.iaload, 1) := by decide +kernel
theorem dX4_valueFor_99 : decode cX4_valueFor 99 = .ok (.aload_n 0, 1) := by decide +kernel
theorem dX4_valueFor_100 : decode cX4_valueFor 100 = .ok (.getfield 15, 3) := by decide +kernel
theorem dX4_valueFor_103 : decode cX4_valueFor 103 = .ok (.iload_n 2, 1) := by decide +kernel
theorem dX4_valueFor_104 : decode cX4_valueFor 104 = .ok (.iaload, 1) := by decide +kernel
theorem dX4_valueFor_105 : decode cX4_valueFor 105 = .ok (.invokestatic 79, 3) := by decide +kernel
theorem dX4_valueFor_108 : decode cX4_valueFor 108 = .ok (.iastore, 1) := by decide +kernel
theorem dX4_valueFor_109 : decode cX4_valueFor 109 = .ok (.iinc 3 1, 3) := by decide +kernel
theorem dX4_valueFor_112 : decode cX4_valueFor 112 = .ok (.goto (-108), 3) := by decide +kernel
theorem dX4_valueFor_115 : decode cX4_valueFor 115 = .ok (.aload_n 0, 1) := by decide +kernel
theorem dX4_valueFor_116 : decode cX4_valueFor 116 = .ok (.getfield 15, 3) := by decide +kernel
theorem dX4_valueFor_119 : decode cX4_valueFor 119 = .ok (.iconst 0, 1) := by decide +kernel
theorem dX4_valueFor_120 : decode cX4_valueFor 120 = .ok (.iaload, 1) := by decide +kernel
theorem dX4_valueFor_121 : decode cX4_valueFor 121 = .ok (.ireturn, 1) := by decide +kernel
theorem dX8_ended_0 : decode cX8_ended 0 = .ok (.aload_n 0, 1) := by decide +kernel
theorem dX8_ended_1 : decode cX8_ended 1 = .ok (.invokevirtual 31, 3) := by decide +kernel
theorem dX8_ended_4 : decode cX8_ended 4 = .ok (.aload_n 0, 1) := by decide +kernel
theorem dX8_ended_5 : decode cX8_ended 5 = .ok (.getfield 22, 3) := by decide +kernel
theorem dX8_ended_8 : decode cX8_ended 8 = .ok (.if_icmp .lt 7, 3) := by decide +kernel
theorem dX8_ended_11 : decode cX8_ended 11 = .ok (.iconst 1, 1) := by decide +kernel
theorem dX8_ended_12 : decode cX8_ended 12 = .ok (.goto 4, 3) := by decide +kernel
theorem dX8_ended_15 : decode cX8_ended 15 = .ok (.iconst 0, 1) := by decide +kernel
theorem dX8_ended_16 : decode cX8_ended 16 = .ok (.ireturn, 1) := by decide +kernel
theorem dX8_wants_0 : decode cX8_wants 0 = .ok (.aload_n 0, 1) := by decide +kernel
theorem dX8_wants_1 : decode cX8_wants 1 = .ok (.iload_n 1, 1) := by decide +kernel
theorem dX8_wants_2 : decode cX8_wants 2 = .ok (.invokevirtual 39, 3) := by decide +kernel
theorem dX8_wants_5 : decode cX8_wants 5 = .ok (.ifCond .ne 15, 3) := by decide +kernel
theorem dX8_wants_8 : decode cX8_wants 8 = .ok (.aload_n 0, 1) := by decide +kernel
theorem dX8_wants_9 : decode cX8_wants 9 = .ok (.iconst 1, 1) := by decide +kernel
theorem dX8_wants_10 : decode cX8_wants 10 = .ok (.aload_n 0, 1) := by decide +kernel
theorem dX8_wants_11 : decode cX8_wants 11 = .ok (.getfield 25, 3) := by decide +kernel
theorem dX8_wants_14 : decode cX8_wants 14 = .ok (.invokevirtual 43, 3) := by decide +kernel
theorem dX8_wants_17 : decode cX8_wants 17 = .ok (.ifCond .eq 7, 3) := by decide +kernel
theorem dX8_wants_20 : decode cX8_wants 20 = .ok (.iconst 1, 1) := by decide +kernel
theorem dX8_wants_21 : decode cX8_wants 21 = .ok (.goto 4, 3) := by decide +kernel
theorem dX8_wants_24 : decode cX8_wants 24 = .ok (.iconst 0, 1) := by decide +kernel
theorem dX8_wants_25 : decode cX8_wants 25 = .ok (.ireturn, 1) := by decide +kernel
theorem dX4_lay_0 : decode cX4_lay 0 = .ok (.aload_n 0, 1) := by decide +kernel
theorem dX4_lay_1 : decode cX4_lay 1 = .ok (.getfield 21, 3) := by decide +kernel
theorem dX4_lay_4 : decode cX4_lay 4 = .ok (.aload_n 0, 1) := by decide +kernel
theorem dX4_lay_5 : decode cX4_lay 5 = .ok (.getfield 9, 3) := by decide +kernel
theorem dX4_lay_8 : decode cX4_lay 8 = .ok (.arraylength, 1) := by decide +kernel
theorem dX4_lay_9 : decode cX4_lay 9 = .ok (.if_icmp .lt 5, 3) := by decide +kernel
theorem dX4_lay_12 : decode cX4_lay 12 = .ok (.iconst 0, 1) := by decide +kernel
theorem dX4_lay_13 : decode cX4_lay 13 = .ok (.ireturn, 1) := by decide +kernel
theorem dX4_lay_14 : decode cX4_lay 14 = .ok (.aload_n 0, 1) := by decide +kernel
theorem dX4_lay_15 : decode cX4_lay 15 = .ok (.getfield 9, 3) := by decide +kernel
theorem dX4_lay_18 : decode cX4_lay 18 = .ok (.aload_n 0, 1) := by decide +kernel
theorem dX4_lay_19 : decode cX4_lay 19 = .ok (.getfield 21, 3) := by decide +kernel
theorem dX4_lay_22 : decode cX4_lay 22 = .ok (.iload_n 1, 1) := by decide +kernel
theorem dX4_lay_23 : decode cX4_lay 23 = .ok (.iastore, 1) := by decide +kernel
theorem dX4_lay_24 : decode cX4_lay 24 = .ok (.aload_n 0, 1) := by decide +kernel
theorem dX4_lay_25 : decode cX4_lay 25 = .ok (.dup, 1) := by decide +kernel
theorem dX4_lay_26 : decode cX4_lay 26 = .ok (.getfield 21, 3) := by decide +kernel
theorem dX4_lay_29 : decode cX4_lay 29 = .ok (.iconst 1, 1) := by decide +kernel
theorem dX4_lay_30 : decode cX4_lay 30 = .ok (.iadd, 1) := by decide +kernel
theorem dX4_lay_31 : decode cX4_lay 31 = .ok (.putfield 21, 3) := by decide +kernel
theorem dX4_lay_34 : decode cX4_lay 34 = .ok (.iconst 1, 1) := by decide +kernel
theorem dX4_lay_35 : decode cX4_lay 35 = .ok (.ireturn, 1) := by decide +kernel
theorem dX8_next_0 : decode cX8_next 0 = .ok (.aload_n 0, 1) := by decide +kernel
theorem dX8_next_1 : decode cX8_next 1 = .ok (.getfield 25, 3) := by decide +kernel
theorem dX8_next_4 : decode cX8_next 4 = .ok (.aload_n 0, 1) := by decide +kernel
theorem dX8_next_5 : decode cX8_next 5 = .ok (.getfield 22, 3) := by decide +kernel
theorem dX8_next_8 : decode cX8_next 8 = .ok (.if_icmp .ge 30, 3) := by decide +kernel
theorem dX8_next_11 : decode cX8_next 11 = .ok (.aload_n 0, 1) := by decide +kernel
theorem dX8_next_12 : decode cX8_next 12 = .ok (.getfield 9, 3) := by decide +kernel
theorem dX8_next_15 : decode cX8_next 15 = .ok (.aload_n 0, 1) := by decide +kernel
theorem dX8_next_16 : decode cX8_next 16 = .ok (.getfield 25, 3) := by decide +kernel
theorem dX8_next_19 : decode cX8_next 19 = .ok (.iaload, 1) := by decide +kernel
theorem dX8_next_20 : decode cX8_next 20 = .ok (.bipush 32, 2) := by decide +kernel
theorem dX8_next_22 : decode cX8_next 22 = .ok (.if_icmp .ne 16, 3) := by decide +kernel
theorem dX8_next_25 : decode cX8_next 25 = .ok (.aload_n 0, 1) := by decide +kernel
theorem dX8_next_26 : decode cX8_next 26 = .ok (.dup, 1) := by decide +kernel
theorem dX8_next_27 : decode cX8_next 27 = .ok (.getfield 25, 3) := by decide +kernel
theorem dX8_next_30 : decode cX8_next 30 = .ok (.iconst 1, 1) := by decide +kernel
theorem dX8_next_31 : decode cX8_next 31 = .ok (.iadd, 1) := by decide +kernel
theorem dX8_next_32 : decode cX8_next 32 = .ok (.putfield 25, 3) := by decide +kernel
theorem dX8_next_35 : decode cX8_next 35 = .ok (.goto (-35), 3) := by decide +kernel
theorem dX8_next_38 : decode cX8_next 38 = .ok (.aload_n 0, 1) := by decide +kernel
theorem dX8_next_39 : decode cX8_next 39 = .ok (.getfield 25, 3) := by decide +kernel
theorem dX8_next_42 : decode cX8_next 42 = .ok (.ireturn, 1) := by decide +kernel
theorem dX0_read_0 : decode cX0_read 0 = .ok (.aload_n 0, 1) := by decide +kernel
theorem dX0_read_1 : decode cX0_read 1 = .ok (.iconst 0, 1) := by decide +kernel
theorem dX0_read_2 : decode cX0_read 2 = .ok (.putfield 24, 3) := by decide +kernel
theorem dX0_read_5 : decode cX0_read 5 = .ok (.iconst 0, 1) := by decide +kernel
theorem dX0_read_6 : decode cX0_read 6 = .ok (.istore_n 3, 1) := by decide +kernel
theorem dX0_read_7 : decode cX0_read 7 = .ok (.iload_n 3, 1) := by decide +kernel
theorem dX0_read_8 : decode cX0_read 8 = .ok (.bipush 8, 2) := by decide +kernel
theorem dX0_read_10 : decode cX0_read 10 = .ok (.if_icmp .gt 31, 3) := by decide +kernel
theorem dX0_read_13 : decode cX0_read 13 = .ok (.aload_n 1, 1) := by decide +kernel
theorem dX0_read_14 : decode cX0_read 14 = .ok (.invokevirtual 28, 3) := by decide +kernel
theorem dX0_read_17 : decode cX0_read 17 = .ok (.ifCond .ne 24, 3) := by decide +kernel
theorem dX0_read_20 : decode cX0_read 20 = .ok (.aload_n 0, 1) := by decide +kernel
theorem dX0_read_21 : decode cX0_read 21 = .ok (.aload_n 1, 1) := by decide +kernel
theorem dX0_read_22 : decode cX0_read 22 = .ok (.iload_n 2, 1) := by decide +kernel
theorem dX0_read_23 : decode cX0_read 23 = .ok (.invokevirtual 34, 3) := by decide +kernel
theorem dX0_read_26 : decode cX0_read 26 = .ok (.aload_n 1, 1) := by decide +kernel
theorem dX0_read_27 : decode cX0_read 27 = .ok (.invokevirtual 38, 3) := by decide +kernel
theorem dX0_read_30 : decode cX0_read 30 = .ok (.ifCond .ne 5, 3) := by decide +kernel
theorem dX0_read_33 : decode cX0_read 33 = .ok (.iconst 0, 1) := by decide +kernel
theorem dX0_read_34 : decode cX0_read 34 = .ok (.ireturn, 1) := by decide +kernel
theorem dX0_read_35 : decode cX0_read 35 = .ok (.iinc 3 1, 3) := by decide +kernel
theorem dX0_read_38 : decode cX0_read 38 = .ok (.goto (-31), 3) := by decide +kernel
theorem dX0_read_41 : decode cX0_read 41 = .ok (.iconst 1, 1) := by decide +kernel
theorem dX0_read_42 : decode cX0_read 42 = .ok (.ireturn, 1) := by decide +kernel
theorem dX4_joined_0 : decode cX4_joined 0 = .ok (.iload_n 0, 1) := by decide +kernel
theorem dX4_joined_1 : decode cX4_joined 1 = .ok (.tableswitch 86 1100 1105 #[39, 43, 47, 51, 63, 75], 39) := by decide +kernel
theorem dX4_joined_40 : decode cX4_joined 40 = .ok (.iload_n 1, 1) := by decide +kernel
theorem dX4_joined_41 : decode cX4_joined 41 = .ok (.iload_n 2, 1) := by decide +kernel
theorem dX4_joined_42 : decode cX4_joined 42 = .ok (.iadd, 1) := by decide +kernel
theorem dX4_joined_43 : decode cX4_joined 43 = .ok (.ireturn, 1) := by decide +kernel
theorem dX4_joined_44 : decode cX4_joined 44 = .ok (.iload_n 1, 1) := by decide +kernel
theorem dX4_joined_45 : decode cX4_joined 45 = .ok (.iload_n 2, 1) := by decide +kernel
theorem dX4_joined_46 : decode cX4_joined 46 = .ok (.isub, 1) := by decide +kernel
theorem dX4_joined_47 : decode cX4_joined 47 = .ok (.ireturn, 1) := by decide +kernel
theorem dX4_joined_48 : decode cX4_joined 48 = .ok (.iload_n 1, 1) := by decide +kernel
theorem dX4_joined_49 : decode cX4_joined 49 = .ok (.iload_n 2, 1) := by decide +kernel
theorem dX4_joined_50 : decode cX4_joined 50 = .ok (.imul, 1) := by decide +kernel
theorem dX4_joined_51 : decode cX4_joined 51 = .ok (.ireturn, 1) := by decide +kernel
theorem dX4_joined_52 : decode cX4_joined 52 = .ok (.iload_n 2, 1) := by decide +kernel
theorem dX4_joined_53 : decode cX4_joined 53 = .ok (.ifCond .ne 7, 3) := by decide +kernel
theorem dX4_joined_56 : decode cX4_joined 56 = .ok (.iconst 0, 1) := by decide +kernel
theorem dX4_joined_57 : decode cX4_joined 57 = .ok (.goto 6, 3) := by decide +kernel
theorem dX4_joined_60 : decode cX4_joined 60 = .ok (.iload_n 1, 1) := by decide +kernel
theorem dX4_joined_61 : decode cX4_joined 61 = .ok (.iload_n 2, 1) := by decide +kernel
theorem dX4_joined_62 : decode cX4_joined 62 = .ok (.idiv, 1) := by decide +kernel
theorem dX4_joined_63 : decode cX4_joined 63 = .ok (.ireturn, 1) := by decide +kernel
theorem dX4_joined_64 : decode cX4_joined 64 = .ok (.iload_n 2, 1) := by decide +kernel
theorem dX4_joined_65 : decode cX4_joined 65 = .ok (.ifCond .ne 7, 3) := by decide +kernel
theorem dX4_joined_68 : decode cX4_joined 68 = .ok (.iconst 0, 1) := by decide +kernel
theorem dX4_joined_69 : decode cX4_joined 69 = .ok (.goto 6, 3) := by decide +kernel
theorem dX4_joined_72 : decode cX4_joined 72 = .ok (.iload_n 1, 1) := by decide +kernel
theorem dX4_joined_73 : decode cX4_joined 73 = .ok (.iload_n 2, 1) := by decide +kernel
theorem dX4_joined_74 : decode cX4_joined 74 = .ok (.irem, 1) := by decide +kernel
theorem dX4_joined_75 : decode cX4_joined 75 = .ok (.ireturn, 1) := by decide +kernel
theorem dX4_joined_76 : decode cX4_joined 76 = .ok (.iload_n 1, 1) := by decide +kernel
theorem dX4_joined_77 : decode cX4_joined 77 = .ok (.iload_n 2, 1) := by decide +kernel
theorem dX4_joined_78 : decode cX4_joined 78 = .ok (.if_icmp .ge 7, 3) := by decide +kernel
theorem dX4_joined_81 : decode cX4_joined 81 = .ok (.iload_n 1, 1) := by decide +kernel
theorem dX4_joined_82 : decode cX4_joined 82 = .ok (.goto 4, 3) := by decide +kernel
theorem dX4_joined_85 : decode cX4_joined 85 = .ok (.iload_n 2, 1) := by decide +kernel
theorem dX4_joined_86 : decode cX4_joined 86 = .ok (.ireturn, 1) := by decide +kernel
theorem dX4_joined_87 : decode cX4_joined 87 = .ok (.iload_n 1, 1) := by decide +kernel
theorem dX4_joined_88 : decode cX4_joined 88 = .ok (.iload_n 2, 1) := by decide +kernel
theorem dX4_joined_89 : decode cX4_joined 89 = .ok (.if_icmp .le 7, 3) := by decide +kernel
theorem dX4_joined_92 : decode cX4_joined 92 = .ok (.iload_n 1, 1) := by decide +kernel
theorem dX4_joined_93 : decode cX4_joined 93 = .ok (.goto 4, 3) := by decide +kernel
theorem dX4_joined_96 : decode cX4_joined 96 = .ok (.iload_n 2, 1) := by decide +kernel
theorem dX4_joined_97 : decode cX4_joined 97 = .ok (.ireturn, 1) := by decide +kernel
theorem dX1_copyFrom_0 : decode cX1_copyFrom 0 = .ok (.aload_n 1, 1) := by decide +kernel
theorem dX1_copyFrom_1 : decode cX1_copyFrom 1 = .ok (.getfield 9, 3) := by decide +kernel
theorem dX1_copyFrom_4 : decode cX1_copyFrom 4 = .ok (.iconst 0, 1) := by decide +kernel
theorem dX1_copyFrom_5 : decode cX1_copyFrom 5 = .ok (.aload_n 0, 1) := by decide +kernel
theorem dX1_copyFrom_6 : decode cX1_copyFrom 6 = .ok (.getfield 9, 3) := by decide +kernel
theorem dX1_copyFrom_9 : decode cX1_copyFrom 9 = .ok (.iconst 0, 1) := by decide +kernel
theorem dX1_copyFrom_10 : decode cX1_copyFrom 10 = .ok (.bipush 42, 2) := by decide +kernel
theorem dX1_copyFrom_12 : decode cX1_copyFrom 12 = .ok (.invokestatic 25, 3) := by decide +kernel
theorem dX1_copyFrom_15 : decode cX1_copyFrom 15 = .ok (.aload_n 1, 1) := by decide +kernel
theorem dX1_copyFrom_16 : decode cX1_copyFrom 16 = .ok (.getfield 15, 3) := by decide +kernel
theorem dX1_copyFrom_19 : decode cX1_copyFrom 19 = .ok (.iconst 0, 1) := by decide +kernel
theorem dX1_copyFrom_20 : decode cX1_copyFrom 20 = .ok (.aload_n 0, 1) := by decide +kernel
theorem dX1_copyFrom_21 : decode cX1_copyFrom 21 = .ok (.getfield 15, 3) := by decide +kernel
theorem dX1_copyFrom_24 : decode cX1_copyFrom 24 = .ok (.iconst 0, 1) := by decide +kernel
theorem dX1_copyFrom_25 : decode cX1_copyFrom 25 = .ok (.bipush 8, 2) := by decide +kernel
theorem dX1_copyFrom_27 : decode cX1_copyFrom 27 = .ok (.invokestatic 25, 3) := by decide +kernel
theorem dX1_copyFrom_30 : decode cX1_copyFrom 30 = .ok (.aload_n 1, 1) := by decide +kernel
theorem dX1_copyFrom_31 : decode cX1_copyFrom 31 = .ok (.getfield 18, 3) := by decide +kernel
theorem dX1_copyFrom_34 : decode cX1_copyFrom 34 = .ok (.iconst 0, 1) := by decide +kernel
theorem dX1_copyFrom_35 : decode cX1_copyFrom 35 = .ok (.aload_n 0, 1) := by decide +kernel
theorem dX1_copyFrom_36 : decode cX1_copyFrom 36 = .ok (.getfield 18, 3) := by decide +kernel
theorem dX1_copyFrom_39 : decode cX1_copyFrom 39 = .ok (.iconst 0, 1) := by decide +kernel
theorem dX1_copyFrom_40 : decode cX1_copyFrom 40 = .ok (.bipush 8, 2) := by decide +kernel
theorem dX1_copyFrom_42 : decode cX1_copyFrom 42 = .ok (.invokestatic 25, 3) := by decide +kernel
theorem dX1_copyFrom_45 : decode cX1_copyFrom 45 = .ok (.aload_n 0, 1) := by decide +kernel
theorem dX1_copyFrom_46 : decode cX1_copyFrom 46 = .ok (.aload_n 1, 1) := by decide +kernel
theorem dX1_copyFrom_47 : decode cX1_copyFrom 47 = .ok (.getfield 31, 3) := by decide +kernel
theorem dX1_copyFrom_50 : decode cX1_copyFrom 50 = .ok (.putfield 31, 3) := by decide +kernel
theorem dX1_copyFrom_53 : decode cX1_copyFrom 53 = .ok (.aload_n 0, 1) := by decide +kernel
theorem dX1_copyFrom_54 : decode cX1_copyFrom 54 = .ok (.aload_n 1, 1) := by decide +kernel
theorem dX1_copyFrom_55 : decode cX1_copyFrom 55 = .ok (.getfield 34, 3) := by decide +kernel
theorem dX1_copyFrom_58 : decode cX1_copyFrom 58 = .ok (.putfield 34, 3) := by decide +kernel
theorem dX1_copyFrom_61 : decode cX1_copyFrom 61 = .ok (.aload_n 0, 1) := by decide +kernel
theorem dX1_copyFrom_62 : decode cX1_copyFrom 62 = .ok (.aload_n 1, 1) := by decide +kernel
theorem dX1_copyFrom_63 : decode cX1_copyFrom 63 = .ok (.getfield 21, 3) := by decide +kernel
theorem dX1_copyFrom_66 : decode cX1_copyFrom 66 = .ok (.putfield 21, 3) := by decide +kernel
theorem dX1_copyFrom_69 : decode cX1_copyFrom 69 = .ok (.return_, 1) := by decide +kernel
theorem dX7_popInto_0 : decode cX7_popInto 0 = .ok (.aload_n 0, 1) := by decide +kernel
theorem dX7_popInto_1 : decode cX7_popInto 1 = .ok (.getfield 18, 3) := by decide +kernel
theorem dX7_popInto_4 : decode cX7_popInto 4 = .ok (.ifCond .le 26, 3) := by decide +kernel
theorem dX7_popInto_7 : decode cX7_popInto 7 = .ok (.aload_n 0, 1) := by decide +kernel
theorem dX7_popInto_8 : decode cX7_popInto 8 = .ok (.dup, 1) := by decide +kernel
theorem dX7_popInto_9 : decode cX7_popInto 9 = .ok (.getfield 18, 3) := by decide +kernel
theorem dX7_popInto_12 : decode cX7_popInto 12 = .ok (.iconst 1, 1) := by decide +kernel
theorem dX7_popInto_13 : decode cX7_popInto 13 = .ok (.isub, 1) := by decide +kernel
theorem dX7_popInto_14 : decode cX7_popInto 14 = .ok (.putfield 18, 3) := by decide +kernel
theorem dX7_popInto_17 : decode cX7_popInto 17 = .ok (.aload_n 1, 1) := by decide +kernel
theorem dX7_popInto_18 : decode cX7_popInto 18 = .ok (.aload_n 0, 1) := by decide +kernel
theorem dX7_popInto_19 : decode cX7_popInto 19 = .ok (.getfield 11, 3) := by decide +kernel
theorem dX7_popInto_22 : decode cX7_popInto 22 = .ok (.aload_n 0, 1) := by decide +kernel
theorem dX7_popInto_23 : decode cX7_popInto 23 = .ok (.getfield 18, 3) := by decide +kernel
theorem dX7_popInto_26 : decode cX7_popInto 26 = .ok (.aaload, 1) := by decide +kernel
theorem dX7_popInto_27 : decode cX7_popInto 27 = .ok (.invokevirtual 22, 3) := by decide +kernel
theorem dX7_popInto_30 : decode cX7_popInto 30 = .ok (.return_, 1) := by decide +kernel
theorem inU_X0 : ∀ w ∈ u_ws RX0 TX0 3, w ∈ BIG := by
  have h : u_ws RX0 TX0 3 = [227, 229, 231].filterMap (fun i => lw_tbl[i]?) := by decide +kernel
  have g : (u_ws RX0 TX0 3).all goodWord = true := by decide +kernel
  intro w hw
  refine inB ?_ (List.all_eq_true.mp g w hw)
  rw [h] at hw
  obtain ⟨i, -, hi⟩ := List.mem_filterMap.mp hw
  exact List.mem_of_getElem? hi
theorem fl_X0_9 : FL RX0 9 0 0 := ⟨RX0, TX0, 3, rfl, rfl, by decide, inU_X0, Or.inl (inBi 223 (by decide +kernel))⟩
theorem fl_X0_15 : FL RX0 15 0 1 := ⟨RX0, TX0, 3, rfl, rfl, by decide, inU_X0, Or.inl (inBi 224 (by decide +kernel))⟩
theorem fl_X0_24 : FL RX0 24 0 2 := ⟨RX0, TX0, 3, rfl, rfl, by decide, inU_X0, Or.inl (inBi 225 (by decide +kernel))⟩
theorem fp_X0_24 : FP RX0 24 0 2 := ⟨RX0, TX0, 3, tyX0, rfl, rfl, by decide, inU_X0, Or.inl (inBi 225 (by decide +kernel)), tyX0_ok, nmX0, rfl, by decide +kernel⟩
theorem inU_X8 : ∀ w ∈ u_ws RX8 TX8 6, w ∈ BIG := by
  have h : u_ws RX8 TX8 6 = [143, 145, 147, 149, 151, 153].filterMap (fun i => lw_tbl[i]?) := by decide +kernel
  have g : (u_ws RX8 TX8 6).all goodWord = true := by decide +kernel
  intro w hw
  refine inB ?_ (List.all_eq_true.mp g w hw)
  rw [h] at hw
  obtain ⟨i, -, hi⟩ := List.mem_filterMap.mp hw
  exact List.mem_of_getElem? hi
theorem fl_X8_25 : FL RX8 25 8 3 := ⟨RX8, TX8, 6, rfl, rfl, by decide, inU_X8, Or.inl (inBi 138 (by decide +kernel))⟩
theorem fl_X8_22 : FL RX8 22 8 2 := ⟨RX8, TX8, 6, rfl, rfl, by decide, inU_X8, Or.inl (inBi 137 (by decide +kernel))⟩
theorem fl_X8_9 : FL RX8 9 8 0 := ⟨RX8, TX8, 6, rfl, rfl, by decide, inU_X8, Or.inl (inBi 134 (by decide +kernel))⟩
theorem fp_X8_25 : FP RX8 25 8 3 := ⟨RX8, TX8, 6, tyX8, rfl, rfl, by decide, inU_X8, Or.inl (inBi 138 (by decide +kernel)), tyX8_ok, nmX8, rfl, by decide +kernel⟩
set_option maxRecDepth 20000 in
theorem cw_X8_next : Cond.code yX8_next cX8_next 1 (some .int) ∈ BIG := inB (List.mem_of_getElem? (i := 654) rfl) rfl
theorem mv_X8_31 : MV RX8 31 yX8_next cX8_next 1 (some .int) 0 := ⟨inBi 651 (by decide +kernel), inBi 652 (by decide +kernel), inBi 653 (by decide +kernel), inBi 95 (by decide +kernel), cw_X8_next, by decide +kernel, by decide +kernel, by decide +kernel⟩
theorem fl_X8_28 : FL RX8 28 8 4 := ⟨RX8, TX8, 6, rfl, rfl, by decide, inU_X8, Or.inl (inBi 139 (by decide +kernel))⟩
theorem fp_X8_28 : FP RX8 28 8 4 := ⟨RX8, TX8, 6, tyX8, rfl, rfl, by decide, inU_X8, Or.inl (inBi 139 (by decide +kernel)), tyX8_ok, nmX8, rfl, by decide +kernel⟩
theorem fp_X8_15 : FP RX8 15 8 5 := ⟨RX8, TX8, 6, tyX8, rfl, rfl, by decide, inU_X8, Or.inl (inBi 141 (by decide +kernel)), tyX8_ok, nmX8, rfl, by decide +kernel⟩
set_option maxRecDepth 20000 in
theorem cw_X8_fail : Cond.code yX8_fail cX8_fail 3 (some .boolean) ∈ BIG := inB (List.mem_of_getElem? (i := 720) rfl) rfl
theorem mv_X8_43 : MV RX8 43 yX8_fail cX8_fail 3 (some .boolean) 2 := ⟨inBi 717 (by decide +kernel), inBi 718 (by decide +kernel), inBi 719 (by decide +kernel), inBi 95 (by decide +kernel), cw_X8_fail, by decide +kernel, by decide +kernel, by decide +kernel⟩
set_option maxRecDepth 20000 in
theorem cw_X8_isDigit : Cond.code yX8_isDigit cX8_isDigit 1 (some .boolean) ∈ BIG := inB (List.mem_of_getElem? (i := 732) rfl) rfl
theorem ms_X8_35 : MS RX8 35 yX8_isDigit cX8_isDigit 1 (some .boolean) 1 := ⟨Or.inl (inBi 730 (by decide +kernel)), inBi 731 (by decide +kernel), inBi 95 (by decide +kernel), cw_X8_isDigit, by decide +kernel, by decide +kernel, by decide +kernel⟩
set_option maxRecDepth 20000 in
theorem cw_X8_takes : Cond.code yX8_takes cX8_takes 2 (some .boolean) ∈ BIG := inB (List.mem_of_getElem? (i := 744) rfl) rfl
theorem mv_X8_39 : MV RX8 39 yX8_takes cX8_takes 2 (some .boolean) 1 := ⟨inBi 741 (by decide +kernel), inBi 742 (by decide +kernel), inBi 743 (by decide +kernel), inBi 95 (by decide +kernel), cw_X8_takes, by decide +kernel, by decide +kernel, by decide +kernel⟩
set_option maxRecDepth 20000 in
theorem cw_X8_wants : Cond.code yX8_wants cX8_wants 2 (some .boolean) ∈ BIG := inB (List.mem_of_getElem? (i := 740) rfl) rfl
theorem mv_X0_53 : MV RX0 53 yX8_wants cX8_wants 2 (some .boolean) 1 := ⟨inBi 928 (by decide +kernel), inBi 738 (by decide +kernel), inBi 739 (by decide +kernel), inBi 95 (by decide +kernel), cw_X8_wants, by decide +kernel, by decide +kernel, by decide +kernel⟩
set_option maxRecDepth 20000 in
theorem cw_X8_number : Cond.code yX8_number cX8_number 5 (some .int) ∈ BIG := inB (List.mem_of_getElem? (i := 729) rfl) rfl
theorem mv_X0_45 : MV RX0 45 yX8_number cX8_number 5 (some .int) 2 := ⟨inBi 926 (by decide +kernel), inBi 727 (by decide +kernel), inBi 728 (by decide +kernel), inBi 95 (by decide +kernel), cw_X8_number, by decide +kernel, by decide +kernel, by decide +kernel⟩
theorem mv_X0_49 : MV RX0 49 yX8_fail cX8_fail 3 (some .boolean) 2 := ⟨inBi 927 (by decide +kernel), inBi 718 (by decide +kernel), inBi 719 (by decide +kernel), inBi 95 (by decide +kernel), cw_X8_fail, by decide +kernel, by decide +kernel, by decide +kernel⟩
theorem mv_X0_41 : MV RX0 41 yX8_next cX8_next 1 (some .int) 0 := ⟨inBi 925 (by decide +kernel), inBi 652 (by decide +kernel), inBi 653 (by decide +kernel), inBi 95 (by decide +kernel), cw_X8_next, by decide +kernel, by decide +kernel, by decide +kernel⟩
set_option maxRecDepth 20000 in
theorem cw_X8_isWhole : Cond.code yX8_isWhole cX8_isWhole 1 (some .boolean) ∈ BIG := inB (List.mem_of_getElem? (i := 748) rfl) rfl
theorem mv_X0_38 : MV RX0 38 yX8_isWhole cX8_isWhole 1 (some .boolean) 0 := ⟨inBi 929 (by decide +kernel), inBi 746 (by decide +kernel), inBi 747 (by decide +kernel), inBi 95 (by decide +kernel), cw_X8_isWhole, by decide +kernel, by decide +kernel, by decide +kernel⟩
set_option maxRecDepth 20000 in
theorem cw_X0_readLine : Cond.code yX0_readLine cX0_readLine 5 none ∈ BIG := inB (List.mem_of_getElem? (i := 924) rfl) rfl
theorem mv_X0_34 : MV RX0 34 yX0_readLine cX0_readLine 5 none 2 := ⟨inBi 921 (by decide +kernel), inBi 923 (by decide +kernel), inBi 14 (by decide +kernel), inBi 98 (by decide +kernel), cw_X0_readLine, by decide +kernel, by decide +kernel, by decide +kernel⟩
set_option maxRecDepth 20000 in
theorem cw_X8_ended : Cond.code yX8_ended cX8_ended 1 (some .boolean) ∈ BIG := inB (List.mem_of_getElem? (i := 650) rfl) rfl
theorem mv_X0_28 : MV RX0 28 yX8_ended cX8_ended 1 (some .boolean) 0 := ⟨inBi 920 (by decide +kernel), inBi 648 (by decide +kernel), inBi 649 (by decide +kernel), inBi 95 (by decide +kernel), cw_X8_ended, by decide +kernel, by decide +kernel, by decide +kernel⟩
theorem fl_X1_9 : FL RX1 9 1 0 := ⟨RX1, TX1, 6, rfl, rfl, by decide, inU_X1, Or.inl (inBi 163 (by decide +kernel))⟩
theorem fl_X1_15 : FL RX1 15 1 1 := ⟨RX1, TX1, 6, rfl, rfl, by decide, inU_X1, Or.inl (inBi 165 (by decide +kernel))⟩
theorem fl_X1_18 : FL RX1 18 1 2 := ⟨RX1, TX1, 6, rfl, rfl, by decide, inU_X1, Or.inl (inBi 168 (by decide +kernel))⟩
theorem fl_X1_31 : FL RX1 31 1 3 := ⟨RX1, TX1, 6, rfl, rfl, by decide, inU_X1, Or.inl (inBi 172 (by decide +kernel))⟩
theorem fp_X1_31 : FP RX1 31 1 3 := ⟨RX1, TX1, 6, tyX1, rfl, rfl, by decide, inU_X1, Or.inl (inBi 172 (by decide +kernel)), tyX1_ok, nmX1, rfl, by decide +kernel⟩
theorem fl_X1_34 : FL RX1 34 1 4 := ⟨RX1, TX1, 6, rfl, rfl, by decide, inU_X1, Or.inl (inBi 177 (by decide +kernel))⟩
theorem fp_X1_34 : FP RX1 34 1 4 := ⟨RX1, TX1, 6, tyX1, rfl, rfl, by decide, inU_X1, Or.inl (inBi 177 (by decide +kernel)), tyX1_ok, nmX1, rfl, by decide +kernel⟩
theorem fl_X1_21 : FL RX1 21 1 5 := ⟨RX1, TX1, 6, rfl, rfl, by decide, inU_X1, Or.inl (inBi 181 (by decide +kernel))⟩
theorem fp_X1_21 : FP RX1 21 1 5 := ⟨RX1, TX1, 6, tyX1, rfl, rfl, by decide, inU_X1, Or.inl (inBi 181 (by decide +kernel)), tyX1_ok, nmX1, rfl, by decide +kernel⟩
theorem mv_X1_74 : MV RX1 74 yX8_number cX8_number 5 (some .int) 2 := ⟨inBi 726 (by decide +kernel), inBi 727 (by decide +kernel), inBi 728 (by decide +kernel), inBi 95 (by decide +kernel), cw_X8_number, by decide +kernel, by decide +kernel, by decide +kernel⟩
theorem inU_X4 : ∀ w ∈ u_ws RX4 TX4 3, w ∈ BIG := by
  have h : u_ws RX4 TX4 3 = [210, 212, 214].filterMap (fun i => lw_tbl[i]?) := by decide +kernel
  have g : (u_ws RX4 TX4 3).all goodWord = true := by decide +kernel
  intro w hw
  refine inB ?_ (List.all_eq_true.mp g w hw)
  rw [h] at hw
  obtain ⟨i, -, hi⟩ := List.mem_filterMap.mp hw
  exact List.mem_of_getElem? hi
theorem fl_X4_9 : FL RX4 9 4 0 := ⟨RX4, TX4, 3, rfl, rfl, by decide, inU_X4, Or.inl (inBi 207 (by decide +kernel))⟩
theorem fp_X4_21 : FP RX4 21 4 2 := ⟨RX4, TX4, 3, tyX4, rfl, rfl, by decide, inU_X4, Or.inl (inBi 209 (by decide +kernel)), tyX4_ok, nmX4, rfl, by decide +kernel⟩
theorem fl_X4_21 : FL RX4 21 4 2 := ⟨RX4, TX4, 3, rfl, rfl, by decide, inU_X4, Or.inl (inBi 209 (by decide +kernel))⟩
theorem fl_X4_15 : FL RX4 15 4 1 := ⟨RX4, TX4, 3, rfl, rfl, by decide, inU_X4, Or.inl (inBi 208 (by decide +kernel))⟩
set_option maxRecDepth 20000 in
theorem cw_X4_joined : Cond.code yX4_joined cX4_joined 3 (some .int) ∈ BIG := inB (List.mem_of_getElem? (i := 880) rfl) rfl
theorem ms_X4_79 : MS RX4 79 yX4_joined cX4_joined 3 (some .int) 3 := ⟨Or.inl (inBi 878 (by decide +kernel)), inBi 879 (by decide +kernel), inBi 97 (by decide +kernel), cw_X4_joined, by decide +kernel, by decide +kernel, by decide +kernel⟩
theorem inU_X7 : ∀ w ∈ u_ws RX7 TX7 2, w ∈ BIG := by
  have h : u_ws RX7 TX7 2 = [355, 357].filterMap (fun i => lw_tbl[i]?) := by decide +kernel
  have g : (u_ws RX7 TX7 2).all goodWord = true := by decide +kernel
  intro w hw
  refine inB ?_ (List.all_eq_true.mp g w hw)
  rw [h] at hw
  obtain ⟨i, -, hi⟩ := List.mem_filterMap.mp hw
  exact List.mem_of_getElem? hi
theorem fl_X7_18 : FL RX7 18 7 1 := ⟨RX7, TX7, 2, rfl, rfl, by decide, inU_X7, Or.inl (inBi 353 (by decide +kernel))⟩
theorem fl_X7_11 : FL RX7 11 7 0 := ⟨RX7, TX7, 2, rfl, rfl, by decide, inU_X7, Or.inl (inBi 352 (by decide +kernel))⟩
theorem fp_X7_18 : FP RX7 18 7 1 := ⟨RX7, TX7, 2, tyX7, rfl, rfl, by decide, inU_X7, Or.inl (inBi 353 (by decide +kernel)), tyX7_ok, nmX7, rfl, by decide +kernel⟩
set_option maxRecDepth 20000 in
theorem cw_X2_copyFrom : Cond.code yX2_copyFrom cX2_copyFrom 2 none ∈ BIG := inB (List.mem_of_getElem? (i := 517) rfl) rfl
theorem mv_X7_22 : MV RX7 22 yX2_copyFrom cX2_copyFrom 2 none 1 := ⟨inBi 514 (by decide +kernel), inBi 515 (by decide +kernel), inBi 516 (by decide +kernel), inBi 101 (by decide +kernel), cw_X2_copyFrom, by decide +kernel, by decide +kernel, by decide +kernel⟩
theorem fl_X8_19 : FL RX8 19 8 1 := ⟨RX8, TX8, 6, rfl, rfl, by decide, inU_X8, Or.inl (inBi 136 (by decide +kernel))⟩
theorem fp_X8_19 : FP RX8 19 8 1 := ⟨RX8, TX8, 6, tyX8, rfl, rfl, by decide, inU_X8, Or.inl (inBi 136 (by decide +kernel)), tyX8_ok, nmX8, rfl, by decide +kernel⟩
theorem fp_X8_22 : FP RX8 22 8 2 := ⟨RX8, TX8, 6, tyX8, rfl, rfl, by decide, inU_X8, Or.inl (inBi 137 (by decide +kernel)), tyX8_ok, nmX8, rfl, by decide +kernel⟩
def fX0_copyFrom (sh : Shp) (x0 : Nat) (x1 : Nat) (mm : Mem) : Option (Mem) :=
  (rR sh 0 x1 0).bind fun a1 =>
  (rR sh 0 x0 0).bind fun a2 =>
  (aC sh mm a1 0 a2 0 8).bind fun m3 =>
  (rR sh 0 x1 1).bind fun a4 =>
  (rR sh 0 x0 1).bind fun a5 =>
  (aC sh m3 a4 0 a5 0 8).bind fun m6 =>
  (rI sh m6 0 x1 2).bind fun v7 =>
  (wI sh m6 0 x0 2 v7).bind fun m8 =>
  some m8
def fX8_next_j38 (sh : Shp) (x0 : Nat) (mm : Mem) : Option (Int32 × Mem) :=
  (rI sh mm 8 x0 3).bind fun v1 =>
  some (v1, mm)
def fX8_next_b0 (sh : Shp) (x0 : Nat) (mm : Mem) : Option ((Mem) ⊕ ((Mem))) :=
  (rI sh mm 8 x0 3).bind fun v2 =>
  (rI sh mm 8 x0 2).bind fun v3 =>
  if v3 ≤ v2 then (some (.inr mm))
  else ((rR sh 8 x0 0).bind fun a5 =>
  (rI sh mm 8 x0 3).bind fun v6 =>
  (aL sh mm a5 v6).bind fun v7 =>
  if v7 = 32 then ((rI sh mm 8 x0 3).bind fun v9 =>
  (wI sh mm 8 x0 3 (v9 + 1)).bind fun m10 =>
  some (.inl m10))
  else (some (.inr mm)))
def fX8_next (sh : Shp) (x0 : Nat) (mm : Mem) : Option (Int32 × Mem) :=
  (loopN (fun st : Mem => fX8_next_b0 sh x0 st) FU mm).bind (fun t => fX8_next_j38 sh x0 t)
def fX8_ended_j16 (sh : Shp) (s0 : Int32) (mm : Mem) : Option (Int32 × Mem) :=
  (ckZ s0).bind fun v1 => some (v1, mm)
def fX8_ended (sh : Shp) (x0 : Nat) (mm : Mem) : Option (Int32 × Mem) :=
  (isO sh 8 x0).bind fun _ =>
  bd2 (fX8_next sh x0 mm) fun v2 m3 =>
  (rI sh m3 8 x0 2).bind fun v4 =>
  if v2 < v4 then (fX8_ended_j16 sh 0 m3)
  else (fX8_ended_j16 sh 1 m3)
def fX8_isDigit_j17 (s0 : Int32) : Option (Int32) :=
  (ckZ s0).bind fun v1 => some v1
def fX8_isDigit_j16 : Option (Int32) :=
  fX8_isDigit_j17 0
def fX8_isDigit (x0 : Int32) : Option (Int32) :=
  if x0 < 48 then (fX8_isDigit_j16 )
  else (if 57 < x0 then (fX8_isDigit_j16 )
  else (fX8_isDigit_j17 1))
def fX8_fail_j17 (sh : Shp) (mm : Mem) : Option (Int32 × Mem) :=
  some (0, mm)
def fX8_fail (sh : Shp) (x0 : Nat) (x1 : Int32) (x2 : Int32) (mm : Mem) : Option (Int32 × Mem) :=
  (rI sh mm 8 x0 4).bind fun v1 =>
  if v1 = 0 then ((wI sh mm 8 x0 4 x1).bind fun m3 =>
  (wI sh m3 8 x0 5 x2).bind fun m4 =>
  fX8_fail_j17 sh m4)
  else (fX8_fail_j17 sh mm)
def fX8_number_j101 (sh : Shp) (x0 : Nat) (x3 : Int32) (mm : Mem) : Option (Int32 × Mem) :=
  (isO sh 8 x0).bind fun _ =>
  bd2 (fX8_fail sh x0 2 x3 mm) fun v1 m2 =>
  some ((-1), m2)
def fX8_number_j72 (sh : Shp) (x0 : Nat) (x1 : Int32) (x2 : Int32) (x3 : Int32) (x4 : Int32) (mm : Mem) : Option (Int32 × Mem) :=
  (rI sh mm 8 x0 3).bind fun v3 =>
  if v3 = x3 then ((isO sh 8 x0).bind fun _ =>
  bd2 (fX8_fail sh x0 1 x3 mm) fun v7 m8 =>
  some ((-1), m8))
  else (if x4 < x1 then (fX8_number_j101 sh x0 x3 mm)
  else (if x4 ≤ x2 then (some (x4, mm))
  else (fX8_number_j101 sh x0 x3 mm)))
def fX8_number_b8 (sh : Shp) (x0 : Nat) (x1 : Int32) (x2 : Int32) (x3 : Int32) (x4 : Int32) (mm : Mem) : Option ((Int32 × Mem) ⊕ ((Int32 × Mem))) :=
  (rI sh mm 8 x0 3).bind fun v13 =>
  (rI sh mm 8 x0 2).bind fun v14 =>
  if v14 ≤ v13 then (some (.inr (x4, mm)))
  else ((rR sh 8 x0 0).bind fun a16 =>
  (rI sh mm 8 x0 3).bind fun v17 =>
  (aL sh mm a16 v17).bind fun v18 =>
  (fX8_isDigit v18).bind fun v19 =>
  if v19 = 0 then (some (.inr (x4, mm)))
  else ((rR sh 8 x0 0).bind fun a21 =>
  (rI sh mm 8 x0 3).bind fun v22 =>
  (aL sh mm a21 v22).bind fun v23 =>
  lt1 (mnI 100000 (((x4 * 10) + v23) - 48)) fun x4_24 =>
  (rI sh mm 8 x0 3).bind fun v25 =>
  (wI sh mm 8 x0 3 (v25 + 1)).bind fun m26 =>
  some (.inl (x4_24, m26))))
def fX8_number (sh : Shp) (x0 : Nat) (x1 : Int32) (x2 : Int32) (mm : Mem) : Option (Int32 × Mem) :=
  (isO sh 8 x0).bind fun _ =>
  bd2 (fX8_next sh x0 mm) fun v9 m10 =>
  lt1 v9 fun x3_11 =>
  lt1 0 fun x4_12 =>
  (loopN (fun st : Int32 × Mem => fX8_number_b8 sh x0 x1 x2 x3_11 st.1 st.2) FU (x4_12, m10)).bind (fun t => fX8_number_j72 sh x0 x1 x2 x3_11 t.1 t.2)
def fX8_takes_j24 (sh : Shp) (mm : Mem) : Option (Int32 × Mem) :=
  some (0, mm)
def fX8_takes (sh : Shp) (x0 : Nat) (x1 : Int32) (mm : Mem) : Option (Int32 × Mem) :=
  (isO sh 8 x0).bind fun _ =>
  bd2 (fX8_next sh x0 mm) fun v1 m2 =>
  (rI sh m2 8 x0 2).bind fun v3 =>
  if v3 ≤ v1 then (fX8_takes_j24 sh m2)
  else ((rR sh 8 x0 0).bind fun a5 =>
  (rI sh m2 8 x0 3).bind fun v6 =>
  (aL sh m2 a5 v6).bind fun v7 =>
  if v7 = x1 then ((rI sh m2 8 x0 3).bind fun v9 =>
  (wI sh m2 8 x0 3 (v9 + 1)).bind fun m10 =>
  some (1, m10))
  else (fX8_takes_j24 sh m2))
def fX8_wants_j25 (sh : Shp) (s0 : Int32) (mm : Mem) : Option (Int32 × Mem) :=
  (ckZ s0).bind fun v1 => some (v1, mm)
def fX8_wants_j20 (sh : Shp) (mm : Mem) : Option (Int32 × Mem) :=
  fX8_wants_j25 sh 1 mm
def fX8_wants (sh : Shp) (x0 : Nat) (x1 : Int32) (mm : Mem) : Option (Int32 × Mem) :=
  (isO sh 8 x0).bind fun _ =>
  bd2 (fX8_takes sh x0 x1 mm) fun v2 m3 =>
  if v2 = 0 then ((rI sh m3 8 x0 3).bind fun v5 =>
  (isO sh 8 x0).bind fun _ =>
  bd2 (fX8_fail sh x0 1 v5 m3) fun v6 m7 =>
  if v6 = 0 then (fX8_wants_j25 sh 0 m7)
  else (fX8_wants_j20 sh m7))
  else (fX8_wants_j20 sh m3)
def fX0_readLine (sh : Shp) (x0 : Nat) (x1 : Nat) (x2 : Int32) (mm : Mem) : Option (Mem) :=
  (isO sh 8 x1).bind fun _ =>
  bd2 (fX8_next sh x1 mm) fun v1 m2 =>
  lt1 v1 fun x3_3 =>
  (isO sh 8 x1).bind fun _ =>
  bd2 (fX8_number sh x1 0 (x2 - 1) m2) fun v4 m5 =>
  lt1 v4 fun x4_6 =>
  (rI sh m5 0 x0 2).bind fun v7 =>
  if v7 < 8 then ((rR sh 0 x0 0).bind fun a9 =>
  (rI sh m5 0 x0 2).bind fun v10 =>
  (aS sh m5 a9 v10 x4_6).bind fun m11 =>
  (rR sh 0 x0 1).bind fun a12 =>
  (rI sh m11 0 x0 2).bind fun v13 =>
  (isO sh 8 x1).bind fun _ =>
  bd2 (fX8_number sh x1 0 400 m11) fun v14 m15 =>
  (aS sh m15 a12 v13 v14).bind fun m16 =>
  (rI sh m16 0 x0 2).bind fun v17 =>
  (wI sh m16 0 x0 2 (v17 + 1)).bind fun m18 =>
  (isO sh 8 x1).bind fun _ =>
  bd2 (fX8_wants sh x1 59 m18) fun v19 m20 =>
  some m20)
  else ((isO sh 8 x1).bind fun _ =>
  bd2 (fX8_fail sh x1 3 x3_3 m5) fun v21 m22 =>
  some m22)
def fX8_isWhole_j12 (sh : Shp) (s0 : Int32) (mm : Mem) : Option (Int32) :=
  (ckZ s0).bind fun v1 => some v1
def fX8_isWhole (sh : Shp) (x0 : Nat) (mm : Mem) : Option (Int32) :=
  (rI sh mm 8 x0 4).bind fun v2 =>
  if v2 = 0 then (fX8_isWhole_j12 sh 1 mm)
  else (fX8_isWhole_j12 sh 0 mm)
def fX0_read_j41 (sh : Shp) (mm : Mem) : Option (Int32 × Mem) :=
  some (1, mm)
def fX0_read_j33 (sh : Shp) (mm : Mem) : Option (Int32 × Mem) :=
  some (0, mm)
def fX0_read_b7 (sh : Shp) (x0 : Nat) (x1 : Nat) (x2 : Int32) (x3 : Int32) (mm : Mem) : Option ((Int32 × Mem) ⊕ ((Mem) ⊕ (Mem))) :=
  if 8 < x3 then (some (.inr (Sum.inr (mm))))
  else ((isO sh 8 x1).bind fun _ =>
  bd2 (fX8_ended sh x1 mm) fun v4 m5 =>
  if v4 = 0 then ((isO sh 0 x0).bind fun _ =>
  (fX0_readLine sh x0 x1 x2 m5).bind fun m7 =>
  (isO sh 8 x1).bind fun _ =>
  (fX8_isWhole sh x1 m7).bind fun v8 =>
  if v8 = 0 then (some (.inr (Sum.inl m7)))
  else (lt1 (x3 + 1) fun x3_10 =>
  some (.inl (x3_10, m7))))
  else (some (.inr (Sum.inr (m5)))))
def fX0_read (sh : Shp) (x0 : Nat) (x1 : Nat) (x2 : Int32) (mm : Mem) : Option (Int32 × Mem) :=
  (wI sh mm 0 x0 2 0).bind fun m1 =>
  lt1 0 fun x3_2 =>
  (loopN (fun st : Int32 × Mem => fX0_read_b7 sh x0 x1 x2 st.1 st.2) FU (x3_2, m1)).bind (Sum.elim (fun t => fX0_read_j33 sh t) (fun t => fX0_read_j41 sh t))
def fX0_tells_j28 (sh : Shp) (mm : Mem) : Option (Int32) :=
  some 0
def fX0_tells_j20 (sh : Shp) (mm : Mem) : Option (Int32) :=
  some 1
def fX0_tells_b2 (sh : Shp) (x0 : Nat) (x1 : Int32) (x2 : Int32) (mm : Mem) : Option ((Int32) ⊕ ((Unit) ⊕ (Unit))) :=
  (rI sh mm 0 x0 2).bind fun v2 =>
  if v2 ≤ x2 then (some (.inr (Sum.inr (()))))
  else ((rR sh 0 x0 0).bind fun a4 =>
  (aL sh mm a4 x2).bind fun v5 =>
  if v5 = x1 then (some (.inr (Sum.inl ())))
  else (lt1 (x2 + 1) fun x2_7 =>
  some (.inl x2_7)))
def fX0_tells (sh : Shp) (x0 : Nat) (x1 : Int32) (mm : Mem) : Option (Int32) :=
  lt1 0 fun x2_1 =>
  (loopN (fun st : Int32 => fX0_tells_b2 sh x0 x1 st mm) FU x2_1).bind (Sum.elim (fun t => fX0_tells_j20 sh mm) (fun t => fX0_tells_j28 sh mm))
def fX0_isRight_j47 (sh : Shp) (mm : Mem) : Option (Int32) :=
  some 1
def fX0_isRight_j39 (sh : Shp) (mm : Mem) : Option (Int32) :=
  some 0
def fX0_isRight_b2 (sh : Shp) (x0 : Nat) (x1 : Nat) (x2 : Int32) (mm : Mem) : Option ((Int32) ⊕ ((Unit) ⊕ (Unit))) :=
  (rI sh mm 0 x0 2).bind fun v2 =>
  if v2 ≤ x2 then (some (.inr (Sum.inr (()))))
  else ((rR sh 0 x0 0).bind fun a4 =>
  (aL sh mm a4 x2).bind fun v5 =>
  lt1 v5 fun x3_6 =>
  if x3_6 < 0 then (some (.inr (Sum.inl ())))
  else ((aN sh x1).bind fun v8 =>
  if v8 ≤ x3_6 then (some (.inr (Sum.inl ())))
  else ((aL sh mm x1 x3_6).bind fun v10 =>
  (rR sh 0 x0 1).bind fun a11 =>
  (aL sh mm a11 x2).bind fun v12 =>
  if v10 = v12 then (lt1 (x2 + 1) fun x2_14 =>
  some (.inl x2_14))
  else (some (.inr (Sum.inl ()))))))
def fX0_isRight (sh : Shp) (x0 : Nat) (x1 : Nat) (mm : Mem) : Option (Int32) :=
  lt1 0 fun x2_1 =>
  (loopN (fun st : Int32 => fX0_isRight_b2 sh x0 x1 st mm) FU x2_1).bind (Sum.elim (fun t => fX0_isRight_j39 sh mm) (fun t => fX0_isRight_j47 sh mm))
def fX1_copyFrom (sh : Shp) (x0 : Nat) (x1 : Nat) (mm : Mem) : Option (Mem) :=
  (rR sh 1 x1 0).bind fun a1 =>
  (rR sh 1 x0 0).bind fun a2 =>
  (aC sh mm a1 0 a2 0 42).bind fun m3 =>
  (rR sh 1 x1 1).bind fun a4 =>
  (rR sh 1 x0 1).bind fun a5 =>
  (aC sh m3 a4 0 a5 0 8).bind fun m6 =>
  (rR sh 1 x1 2).bind fun a7 =>
  (rR sh 1 x0 2).bind fun a8 =>
  (aC sh m6 a7 0 a8 0 8).bind fun m9 =>
  (rI sh m9 1 x1 3).bind fun v10 =>
  (wI sh m9 1 x0 3 v10).bind fun m11 =>
  (rI sh m11 1 x1 4).bind fun v12 =>
  (wI sh m11 1 x0 4 v12).bind fun m13 =>
  (rI sh m13 1 x1 5).bind fun v14 =>
  (wI sh m13 1 x0 5 v14).bind fun m15 =>
  some m15
def fX1_parts_j14 (sh : Shp) (s0 : Int32) (mm : Mem) : Option (Int32) :=
  (ckZ s0).bind fun v1 => some v1
def fX1_parts (sh : Shp) (x0 : Nat) (x1 : Int32) (mm : Mem) : Option (Int32) :=
  (rR sh 1 x0 2).bind fun a2 =>
  (aL sh mm a2 x1).bind fun v3 =>
  if v3 = 0 then (fX1_parts_j14 sh 1 mm)
  else (fX1_parts_j14 sh 0 mm)
def fX1_readFellow_j35 (sh : Shp) (x0 : Nat) (mm : Mem) : Option (Mem) :=
  (rI sh mm 1 x0 3).bind fun v1 =>
  (wI sh mm 1 x0 3 (v1 + 1)).bind fun m2 =>
  some m2
def fX1_readFellow_b2 (sh : Shp) (x0 : Nat) (x1 : Nat) (x2 : Int32) (mm : Mem) : Option ((Int32 × Mem) ⊕ ((Mem))) :=
  if 7 ≤ x2 then (some (.inr mm))
  else ((rR sh 1 x0 0).bind fun a5 =>
  (rI sh mm 1 x0 3).bind fun v6 =>
  (isO sh 8 x1).bind fun _ =>
  bd2 (fX8_number sh x1 0 40 mm) fun v7 m8 =>
  (aS sh m8 a5 ((v6 * 7) + x2) v7).bind fun m9 =>
  lt1 (x2 + 1) fun x2_10 =>
  some (.inl (x2_10, m9)))
def fX1_readFellow (sh : Shp) (x0 : Nat) (x1 : Nat) (mm : Mem) : Option (Mem) :=
  lt1 0 fun x2_3 =>
  (loopN (fun st : Int32 × Mem => fX1_readFellow_b2 sh x0 x1 st.1 st.2) FU (x2_3, mm)).bind (fun t => fX1_readFellow_j35 sh x0 t)
def fX4_becomePlain (sh : Shp) (x0 : Nat) (mm : Mem) : Option (Mem) :=
  (rR sh 4 x0 0).bind fun a1 =>
  (aS sh mm a1 0 1000).bind fun m2 =>
  (rR sh 4 x0 0).bind fun a3 =>
  (aS sh m2 a3 1 1).bind fun m4 =>
  (rR sh 4 x0 0).bind fun a5 =>
  (aS sh m4 a5 2 1100).bind fun m6 =>
  (rR sh 4 x0 0).bind fun a7 =>
  (aS sh m6 a7 3 1002).bind fun m8 =>
  (rR sh 4 x0 0).bind fun a9 =>
  (aS sh m8 a9 4 1102).bind fun m10 =>
  (wI sh m10 4 x0 2 5).bind fun m11 =>
  some m11
def fX4_copyFrom (sh : Shp) (x0 : Nat) (x1 : Nat) (mm : Mem) : Option (Mem) :=
  (rR sh 4 x1 0).bind fun a1 =>
  (rR sh 4 x0 0).bind fun a2 =>
  (rR sh 4 x0 0).bind fun a3 =>
  (aN sh a3).bind fun v4 =>
  (aC sh mm a1 0 a2 0 v4).bind fun m5 =>
  (rI sh m5 4 x1 2).bind fun v6 =>
  (wI sh m5 4 x0 2 v6).bind fun m7 =>
  some m7
def fX8_seesDigit_j31 (sh : Shp) (s0 : Int32) (mm : Mem) : Option (Int32 × Mem) :=
  (ckZ s0).bind fun v1 => some (v1, mm)
def fX8_seesDigit_j30 (sh : Shp) (mm : Mem) : Option (Int32 × Mem) :=
  fX8_seesDigit_j31 sh 0 mm
def fX8_seesDigit (sh : Shp) (x0 : Nat) (mm : Mem) : Option (Int32 × Mem) :=
  (isO sh 8 x0).bind fun _ =>
  bd2 (fX8_next sh x0 mm) fun v2 m3 =>
  (rI sh m3 8 x0 2).bind fun v4 =>
  if v4 ≤ v2 then (fX8_seesDigit_j30 sh m3)
  else ((rR sh 8 x0 0).bind fun a6 =>
  (rI sh m3 8 x0 3).bind fun v7 =>
  (aL sh m3 a6 v7).bind fun v8 =>
  (fX8_isDigit v8).bind fun v9 =>
  if v9 = 0 then (fX8_seesDigit_j30 sh m3)
  else (fX8_seesDigit_j31 sh 1 m3))
def fX4_lay (sh : Shp) (x0 : Nat) (x1 : Int32) (mm : Mem) : Option (Int32 × Mem) :=
  (rI sh mm 4 x0 2).bind fun v1 =>
  (rR sh 4 x0 0).bind fun a2 =>
  (aN sh a2).bind fun v3 =>
  if v1 < v3 then ((rR sh 4 x0 0).bind fun a5 =>
  (rI sh mm 4 x0 2).bind fun v6 =>
  (aS sh mm a5 v6 x1).bind fun m7 =>
  (rI sh m7 4 x0 2).bind fun v8 =>
  (wI sh m7 4 x0 2 (v8 + 1)).bind fun m9 =>
  some (1, m9))
  else (some (0, mm))
def fX4_joined_j63 (s0 : Int32) : Option (Int32) :=
  some s0
def fX4_joined_j75 (s0 : Int32) : Option (Int32) :=
  some s0
def fX4_joined_j86 (s0 : Int32) : Option (Int32) :=
  some s0
def fX4_joined_j97 (s0 : Int32) : Option (Int32) :=
  some s0
def fX4_joined (x0 : Int32) (x1 : Int32) (x2 : Int32) : Option (Int32) :=
  if x0 = 1100 then (some (x1 + x2))
  else if x0 = 1101 then (some (x1 - x2))
  else if x0 = 1102 then (some (x1 * x2))
  else if x0 = 1103 then (if x2 = 0 then (fX4_joined_j63 0)
  else ((dvI x1 x2).bind fun v5 =>
  fX4_joined_j63 v5))
  else if x0 = 1104 then (if x2 = 0 then (fX4_joined_j75 0)
  else ((rmI x1 x2).bind fun v8 =>
  fX4_joined_j75 v8))
  else if x0 = 1105 then (if x2 ≤ x1 then (fX4_joined_j86 x2)
  else (fX4_joined_j86 x1))
  else (if x1 ≤ x2 then (fX4_joined_j97 x2)
  else (fX4_joined_j97 x1))
def fX4_valueFor_j115 (sh : Shp) (x0 : Nat) (mm : Mem) : Option (Int32 × Mem) :=
  (rR sh 4 x0 1).bind fun a1 =>
  (aL sh mm a1 0).bind fun v2 =>
  some (v2, mm)
def fX4_valueFor_j37 (sh : Shp) (mm : Mem) : Option (Int32 × Mem) :=
  some (0, mm)
def fX4_valueFor_j77 (sh : Shp) (mm : Mem) : Option (Int32 × Mem) :=
  some (0, mm)
def fX4_valueFor_j109 (sh : Shp) (x0 : Nat) (x1 : Nat) (x2 : Int32) (x3 : Int32) (mm : Mem) : Option ((Int32 × Int32 × Mem) ⊕ ((Mem) ⊕ (Mem) ⊕ (Mem))) :=
  lt1 (x3 + 1) fun x3_5 =>
  some (.inl (x2, x3_5, mm))
def fX4_valueFor_j65 (sh : Shp) (x0 : Nat) (x1 : Nat) (x2 : Int32) (x3 : Int32) (s0 : Nat) (s1 : Int32) (s2 : Int32) (mm : Mem) : Option ((Int32 × Int32 × Mem) ⊕ ((Mem) ⊕ (Mem) ⊕ (Mem))) :=
  (aS sh mm s0 s1 s2).bind fun m6 =>
  lt1 (x2 + 1) fun x2_7 =>
  fX4_valueFor_j109 sh x0 x1 x2_7 x3 m6
def fX4_valueFor_b4 (sh : Shp) (x0 : Nat) (x1 : Nat) (x2 : Int32) (x3 : Int32) (mm : Mem) : Option ((Int32 × Int32 × Mem) ⊕ ((Mem) ⊕ (Mem) ⊕ (Mem))) :=
  (rI sh mm 4 x0 2).bind fun v8 =>
  if v8 ≤ x3 then (some (.inr (Sum.inr (Sum.inr (mm)))))
  else ((rR sh 4 x0 0).bind fun a10 =>
  (aL sh mm a10 x3).bind fun v11 =>
  lt1 v11 fun x4_12 =>
  if 1100 ≤ x4_12 then (if 2 ≤ x2 then (lt1 (x2 + (-1)) fun x2_15 =>
  (rR sh 4 x0 1).bind fun a16 =>
  (rR sh 4 x0 1).bind fun a17 =>
  (aL sh mm a17 (x2_15 - 1)).bind fun v18 =>
  (rR sh 4 x0 1).bind fun a19 =>
  (aL sh mm a19 x2_15).bind fun v20 =>
  (fX4_joined x4_12 v18 v20).bind fun v21 =>
  (aS sh mm a16 (x2_15 - 1) v21).bind fun m22 =>
  fX4_valueFor_j109 sh x0 x1 x2_15 x3 m22)
  else (some (.inr (Sum.inr (Sum.inl mm)))))
  else ((rR sh 4 x0 1).bind fun a23 =>
  (aN sh a23).bind fun v24 =>
  if x2 < v24 then ((rR sh 4 x0 1).bind fun a26 =>
  if 1000 ≤ x4_12 then ((aL sh mm x1 (x4_12 - 1000)).bind fun v28 =>
  fX4_valueFor_j65 sh x0 x1 x2 x3 a26 x2 v28 mm)
  else (fX4_valueFor_j65 sh x0 x1 x2 x3 a26 x2 x4_12 mm))
  else (some (.inr (Sum.inl mm)))))
def fX4_valueFor (sh : Shp) (x0 : Nat) (x1 : Nat) (mm : Mem) : Option (Int32 × Mem) :=
  lt1 0 fun x2_3 =>
  lt1 0 fun x3_4 =>
  (loopN (fun st : Int32 × Int32 × Mem => fX4_valueFor_b4 sh x0 x1 st.1 st.2.1 st.2.2) FU (x2_3, x3_4, mm)).bind (Sum.elim (fun t => fX4_valueFor_j37 sh t) (Sum.elim (fun t => fX4_valueFor_j77 sh t) (fun t => fX4_valueFor_j115 sh x0 t)))
def fX7_push_j32 (sh : Shp) (mm : Mem) : Option (Mem) :=
  some mm
def fX7_push (sh : Shp) (x0 : Nat) (x1 : Nat) (mm : Mem) : Option (Mem) :=
  (rI sh mm 7 x0 1).bind fun v1 =>
  if 16 ≤ v1 then (fX7_push_j32 sh mm)
  else ((rR sh 7 x0 0).bind fun a3 =>
  (rI sh mm 7 x0 1).bind fun v4 =>
  (aR sh a3 v4).bind fun a5 =>
  (isO sh 2 a5).bind fun _ =>
  (fX2_copyFrom sh a5 x1 mm).bind fun m6 =>
  (rI sh m6 7 x0 1).bind fun v7 =>
  (wI sh m6 7 x0 1 (v7 + 1)).bind fun m8 =>
  fX7_push_j32 sh m8)
def fX7_popInto_j30 (sh : Shp) (mm : Mem) : Option (Mem) :=
  some mm
def fX7_popInto (sh : Shp) (x0 : Nat) (x1 : Nat) (mm : Mem) : Option (Mem) :=
  (rI sh mm 7 x0 1).bind fun v1 =>
  if v1 ≤ 0 then (fX7_popInto_j30 sh mm)
  else ((rI sh mm 7 x0 1).bind fun v3 =>
  (wI sh mm 7 x0 1 (v3 - 1)).bind fun m4 =>
  (rR sh 7 x0 0).bind fun a5 =>
  (rI sh m4 7 x0 1).bind fun v6 =>
  (aR sh a5 v6).bind fun a7 =>
  (isO sh 2 x1).bind fun _ =>
  (fX2_copyFrom sh x1 a7 m4).bind fun m8 =>
  fX7_popInto_j30 sh m8)
def fX7_copyFrom_j39 (sh : Shp) (mm : Mem) : Option (Mem) :=
  some mm
def fX7_copyFrom_b10 (sh : Shp) (x0 : Nat) (x1 : Nat) (x2 : Int32) (mm : Mem) : Option ((Int32 × Mem) ⊕ ((Mem))) :=
  (rI sh mm 7 x0 1).bind fun v4 =>
  if v4 ≤ x2 then (some (.inr mm))
  else ((rR sh 7 x0 0).bind fun a6 =>
  (aR sh a6 x2).bind fun a7 =>
  (rR sh 7 x1 0).bind fun a8 =>
  (aR sh a8 x2).bind fun a9 =>
  (isO sh 2 a7).bind fun _ =>
  (fX2_copyFrom sh a7 a9 mm).bind fun m10 =>
  lt1 (x2 + 1) fun x2_11 =>
  some (.inl (x2_11, m10)))
def fX7_copyFrom (sh : Shp) (x0 : Nat) (x1 : Nat) (mm : Mem) : Option (Mem) :=
  (rI sh mm 7 x1 1).bind fun v1 =>
  (wI sh mm 7 x0 1 v1).bind fun m2 =>
  lt1 0 fun x2_3 =>
  (loopN (fun st : Int32 × Mem => fX7_copyFrom_b10 sh x0 x1 st.1 st.2) FU (x2_3, m2)).bind (fun t => fX7_copyFrom_j39 sh t)
def fX8_put_j49 (sh : Shp) (mm : Mem) : Option (Mem) :=
  some mm
def fX8_put_b3 (sh : Shp) (x0 : Nat) (x1 : Int32) (x2 : Int32) (mm : Mem) : Option ((Int32 × Mem) ⊕ ((Mem))) :=
  if x2 < 0 then (some (.inr mm))
  else ((rI sh mm 8 x0 1).bind fun v3 =>
  if 600 ≤ v3 then (some (.inr mm))
  else ((rR sh 8 x0 0).bind fun a5 =>
  (rI sh mm 8 x0 1).bind fun v6 =>
  (aS sh mm a5 v6 ((uShr x1 x2) &&& 255)).bind fun m7 =>
  (rI sh m7 8 x0 1).bind fun v8 =>
  (wI sh m7 8 x0 1 (v8 + 1)).bind fun m9 =>
  lt1 (x2 + (-8)) fun x2_10 =>
  some (.inl (x2_10, m9))))
def fX8_put (sh : Shp) (x0 : Nat) (x1 : Int32) (mm : Mem) : Option (Mem) :=
  lt1 24 fun x2_1 =>
  (loopN (fun st : Int32 × Mem => fX8_put_b3 sh x0 x1 st.1 st.2) FU (x2_1, mm)).bind (fun t => fX8_put_j49 sh t)
def fX8_open (sh : Shp) (x0 : Nat) (x1 : Int32) (mm : Mem) : Option (Mem) :=
  (wI sh mm 8 x0 2 x1).bind fun m1 =>
  (wI sh m1 8 x0 3 0).bind fun m2 =>
  (wI sh m2 8 x0 1 0).bind fun m3 =>
  (wI sh m3 8 x0 4 0).bind fun m4 =>
  (wI sh m4 8 x0 5 (-1)).bind fun m5 =>
  some m5
def fX8_sees_j29 (sh : Shp) (s0 : Int32) (mm : Mem) : Option (Int32 × Mem) :=
  (ckZ s0).bind fun v1 => some (v1, mm)
def fX8_sees_j28 (sh : Shp) (mm : Mem) : Option (Int32 × Mem) :=
  fX8_sees_j29 sh 0 mm
def fX8_sees (sh : Shp) (x0 : Nat) (x1 : Int32) (mm : Mem) : Option (Int32 × Mem) :=
  (isO sh 8 x0).bind fun _ =>
  bd2 (fX8_next sh x0 mm) fun v2 m3 =>
  (rI sh m3 8 x0 2).bind fun v4 =>
  if v4 ≤ v2 then (fX8_sees_j28 sh m3)
  else ((rR sh 8 x0 0).bind fun a6 =>
  (rI sh m3 8 x0 3).bind fun v7 =>
  (aL sh m3 a6 v7).bind fun v8 =>
  if v8 = x1 then (fX8_sees_j29 sh 1 m3)
  else (fX8_sees_j28 sh m3))
set_option maxHeartbeats 4000000 in
set_option maxRecDepth 100000 in
theorem wX0_copyFrom {p : Program} {l : Launch} {e : Env} {R : Room} {s : State} {m : MethodId} {args : Array Value} {below : List Frame} {meth : Method} {c : Code} {Q : State → Prop} {E : Ev} (X : Cx p s m args c cX0_copyFrom RX0 E) (hml : c.maxLocals = 2) (hR : 1 ≤ R.frames ∧ 60 ≤ R.locals) {x0 : Nat} {x1 : Nat} {mm : Mem} {mm1 : Mem} (hf : fX0_copyFrom (eS E) x0 x1 mm = some mm1) (hret : ∀ (pc : Nat) (H : Heap) (locs : List Loc) (ls : Array Slot), decode cX0_copyFrom pc = .ok (.return_, 1) → wS E s mm1 H locs → W p l e R s m args below meth c H locs 0 0 Q (F0 m pc ls [])) : ∀ (H : Heap) (locs : List Loc) (ls : Array Slot), wS E s mm H locs → lv_has ls 2 [(0, .ref x0), (1, .ref x1)] → W p l e R s m args below meth c H locs 0 0 Q (F0 m 0 ls []) := by
  have hx := X.1
  have hb := X.2.1
  unfold fX0_copyFrom at hf
  intro H locs ls hS hl
  refine lv_aload_n hx hb dX0_copyFrom_0 rfl (lv_at hl 1 rfl) ?_
  obtain ⟨a1, h1, hf⟩ := bs hf
  refine am_gr X hS fl_X0_9 rfl h1 dX0_copyFrom_1 ?_
  refine lv_iconst (v := 0) hx hb dX0_copyFrom_4 (by decide) ?_
  refine lv_aload_n hx hb dX0_copyFrom_5 rfl (lv_at hl 0 rfl) ?_
  obtain ⟨a2, h1, hf⟩ := bs hf
  refine am_gr X hS fl_X0_9 rfl h1 dX0_copyFrom_6 ?_
  refine lv_iconst (v := 0) hx hb dX0_copyFrom_9 (by decide) ?_
  refine lv_bipush (v := 8) hx hb dX0_copyFrom_10 (by decide) ?_
  obtain ⟨m3, h1, hf⟩ := bs hf
  refine am_cpy X (hml.trans hl.1.symm) hS h1 (inBi 934 (by decide +kernel)) (inBi 520 (by decide +kernel)) (inBi 519 (by decide +kernel)) (inBi 117 (by decide +kernel)) (Nat.le_trans (by decide) hR.1) (Nat.le_trans (by decide) hR.2) dX0_copyFrom_12 (fun H locs hS => ?_)
  refine lv_aload_n hx hb dX0_copyFrom_15 rfl (lv_at hl 1 rfl) ?_
  obtain ⟨a4, h1, hf⟩ := bs hf
  refine am_gr X hS fl_X0_15 rfl h1 dX0_copyFrom_16 ?_
  refine lv_iconst (v := 0) hx hb dX0_copyFrom_19 (by decide) ?_
  refine lv_aload_n hx hb dX0_copyFrom_20 rfl (lv_at hl 0 rfl) ?_
  obtain ⟨a5, h1, hf⟩ := bs hf
  refine am_gr X hS fl_X0_15 rfl h1 dX0_copyFrom_21 ?_
  refine lv_iconst (v := 0) hx hb dX0_copyFrom_24 (by decide) ?_
  refine lv_bipush (v := 8) hx hb dX0_copyFrom_25 (by decide) ?_
  obtain ⟨m6, h1, hf⟩ := bs hf
  refine am_cpy X (hml.trans hl.1.symm) hS h1 (inBi 934 (by decide +kernel)) (inBi 520 (by decide +kernel)) (inBi 519 (by decide +kernel)) (inBi 117 (by decide +kernel)) (Nat.le_trans (by decide) hR.1) (Nat.le_trans (by decide) hR.2) dX0_copyFrom_27 (fun H locs hS => ?_)
  refine lv_aload_n hx hb dX0_copyFrom_30 rfl (lv_at hl 0 rfl) ?_
  refine lv_aload_n hx hb dX0_copyFrom_31 rfl (lv_at hl 1 rfl) ?_
  obtain ⟨v7, h1, hf⟩ := bs hf
  refine am_gi X hS fl_X0_24 rfl h1 dX0_copyFrom_32 ?_
  obtain ⟨m8, h1, hf⟩ := bs hf
  refine am_pi X hS fp_X0_24 rfl h1 dX0_copyFrom_35 (fun H locs hS => ?_)
  cases hf
  exact hret _ _ _ _ dX0_copyFrom_38 hS
set_option maxRecDepth 100000 in
theorem cX0_copyFrom_ok {l : Launch} {E : Ev} {x0 : Nat} {x1 : Nat} {mm : Mem} {mm1 : Mem} (hf : fX0_copyFrom (eS E) x0 x1 mm = some mm1) : CtV l yX0_copyFrom cX0_copyFrom 2 none 1 60 E [.ref x0, .ref x1] mm mm1 := by
  refine Met.ofW (cc := cX0_copyFrom) (maxL := 2) (ret := none) (by decide) rfl ?_
  intro p e s m args below meth c s₁ B hml hv
  obtain ⟨rfl, X, hS, hr, hlocks⟩ := am_in B hv
  refine am_entry (Nat.le_of_ble_eq_true rfl) (fun ls hl => ?_)
  exact wX0_copyFrom X hml ⟨Nat.le_refl _, Nat.le_refl _⟩ hf (fun pc H locs ls hd hS => am_rv X hS hr hd hlocks) _ _ ls hS hl
set_option maxHeartbeats 4000000 in
set_option maxRecDepth 100000 in
theorem wX8_next {p : Program} {l : Launch} {e : Env} {R : Room} {s : State} {m : MethodId} {args : Array Value} {below : List Frame} {meth : Method} {c : Code} {Q : State → Prop} {E : Ev} (X : Cx p s m args c cX8_next RX8 E) (hml : c.maxLocals = 1) (hR : 0 ≤ R.frames ∧ 0 ≤ R.locals) {x0 : Nat} {mm : Mem} {r : Int32} {mm1 : Mem} (hf : fX8_next (eS E) x0 mm = some (r, mm1)) (hret : ∀ (pc : Nat) (H : Heap) (locs : List Loc) (ls : Array Slot), narrow .int (.int r) = .int r → decode cX8_next pc = .ok (.ireturn, 1) → wS E s mm1 H locs → W p l e R s m args below meth c H locs 0 0 Q (F0 m pc ls [.int r])) : ∀ (H : Heap) (locs : List Loc) (ls : Array Slot), wS E s mm H locs → lv_has ls 1 [(0, .ref x0)] → W p l e R s m args below meth c H locs 0 0 Q (F0 m 0 ls []) := by
  have hx := X.1
  have hb := X.2.1
  unfold fX8_next at hf
  have hj38 : ∀ (x0 : Nat) (mm : Mem) (H : Heap) (locs : List Loc) (ls : Array Slot), fX8_next_j38 (eS E) x0 mm = some (r, mm1) → wS E s mm H locs → lv_has ls 1 [(0, .ref x0)] → W p l e R s m args below meth c H locs 0 0 Q (F0 m 38 ls []) := by
    intro x0 mm H locs ls hf hS hl
    unfold fX8_next_j38 at hf
    refine lv_aload_n hx hb dX8_next_38 rfl (lv_at hl 0 rfl) ?_
    obtain ⟨v1, h1, hf⟩ := bs hf
    refine am_gi X hS fl_X8_25 rfl h1 dX8_next_39 ?_
    cases hf
    exact hret _ _ _ _ rfl dX8_next_42 hS
  intro H locs ls hS hl
  obtain ⟨ex0, hl0, hk0⟩ := bs hf
  refine loop_W (P := fun st => ∀ (H : Heap) (locs : List Loc) (ls : Array Slot), wS E s st H locs → lv_has ls 1 [(0, .ref x0)] → W p l e R s m args below meth c H locs 0 0 Q (F0 m 0 ls [])) (ex := ex0) ?_ FU _ hl0 H locs ls hS hl
  intro st y0 hf hyL0 hyR0 H locs ls hS hl
  obtain ⟨mm, rfl⟩ : ∃ z, z = st := ⟨_, rfl⟩
  have hf : fX8_next_b0 (eS E) x0 mm = some y0 := hf
  have hS : wS E s mm H locs := hS
  have hl : lv_has ls 1 [(0, .ref x0)] := hl
  unfold fX8_next_b0 at hf
  refine lv_aload_n hx hb dX8_next_0 rfl (lv_at hl 0 rfl) ?_
  obtain ⟨v2, h1, hf⟩ := bs hf
  refine am_gi X hS fl_X8_25 rfl h1 dX8_next_1 ?_
  refine lv_aload_n hx hb dX8_next_4 rfl (lv_at hl 0 rfl) ?_
  obtain ⟨v3, h1, hf⟩ := bs hf
  refine am_gi X hS fl_X8_22 rfl h1 dX8_next_5 ?_
  refine lv_icmp_ge (tgt := 38) hx hb dX8_next_8 (by decide) (fun q4 => ?_) (fun q4 => ?_)
  · have hf := ifp hf q4
    obtain rfl : mm = ex0 := hyR0 _ (Option.some.inj hf).symm
    exact hj38 x0 mm H locs ls hk0 hS hl
  · have hf := ifn hf q4
    refine lv_aload_n hx hb dX8_next_11 rfl (lv_at hl 0 rfl) ?_
    obtain ⟨a5, h1, hf⟩ := bs hf
    refine am_gr X hS fl_X8_9 rfl h1 dX8_next_12 ?_
    refine lv_aload_n hx hb dX8_next_15 rfl (lv_at hl 0 rfl) ?_
    obtain ⟨v6, h1, hf⟩ := bs hf
    refine am_gi X hS fl_X8_25 rfl h1 dX8_next_16 ?_
    obtain ⟨v7, h1, hf⟩ := bs hf
    refine am_ald X hS h1 dX8_next_19 ?_
    refine lv_bipush (v := 32) hx hb dX8_next_20 (by decide) ?_
    refine lv_icmp_ne (tgt := 38) hx hb dX8_next_22 (by decide) (fun q8 => ?_) (fun q8 => ?_)
    · have hf := ifn hf q8
      obtain rfl : mm = ex0 := hyR0 _ (Option.some.inj hf).symm
      exact hj38 x0 mm H locs ls hk0 hS hl
    · have hf := ifp hf q8
      refine lv_aload_n hx hb dX8_next_25 rfl (lv_at hl 0 rfl) ?_
      refine lv_dup hx hb dX8_next_26 rfl ?_
      obtain ⟨v9, h1, hf⟩ := bs hf
      refine am_gi X hS fl_X8_25 rfl h1 dX8_next_27 ?_
      refine lv_iconst (v := 1) hx hb dX8_next_30 (by decide) ?_
      refine lv_iadd hx hb dX8_next_31 ?_
      obtain ⟨m10, h1, hf⟩ := bs hf
      refine am_pi X hS fp_X8_25 rfl h1 dX8_next_32 (fun H locs hS => ?_)
      refine lv_goto (tgt := 0) hx hb dX8_next_35 (by decide) ?_
      exact hyL0 _ (Option.some.inj hf).symm H locs ls hS hl
set_option maxRecDepth 100000 in
theorem cX8_next_ok {l : Launch} {E : Ev} {x0 : Nat} {mm : Mem} {r : Int32} {mm1 : Mem} (hf : fX8_next (eS E) x0 mm = some (r, mm1)) : CtI l yX8_next cX8_next 1 (some .int) 0 0 E [.ref x0] mm r mm1 := by
  refine Met.ofW (cc := cX8_next) (maxL := 1) (ret := (some .int)) (by decide) rfl ?_
  intro p e s m args below meth c s₁ B hml hv
  obtain ⟨rfl, X, hS, hr, hlocks⟩ := am_in B hv
  refine am_entry (Nat.le_of_ble_eq_true rfl) (fun ls hl => ?_)
  exact wX8_next X hml ⟨Nat.le_refl _, Nat.le_refl _⟩ hf (fun pc H locs ls hn hd hS => am_ri X hS hr hn hd hlocks) _ _ ls hS hl
set_option maxHeartbeats 4000000 in
set_option maxRecDepth 100000 in
theorem wX8_ended {p : Program} {l : Launch} {e : Env} {R : Room} {s : State} {m : MethodId} {args : Array Value} {below : List Frame} {meth : Method} {c : Code} {Q : State → Prop} {E : Ev} (X : Cx p s m args c cX8_ended RX8 E) (hml : c.maxLocals = 1) (hR : 1 ≤ R.frames ∧ 20 ≤ R.locals) {x0 : Nat} {mm : Mem} {r : Int32} {mm1 : Mem} (hf : fX8_ended (eS E) x0 mm = some (r, mm1)) (hret : ∀ (pc : Nat) (H : Heap) (locs : List Loc) (ls : Array Slot), narrow .boolean (.int r) = .int r → decode cX8_ended pc = .ok (.ireturn, 1) → wS E s mm1 H locs → W p l e R s m args below meth c H locs 0 0 Q (F0 m pc ls [.int r])) : ∀ (H : Heap) (locs : List Loc) (ls : Array Slot), wS E s mm H locs → lv_has ls 1 [(0, .ref x0)] → W p l e R s m args below meth c H locs 0 0 Q (F0 m 0 ls []) := by
  have hx := X.1
  have hb := X.2.1
  unfold fX8_ended at hf
  have hj16 : ∀ (s0 : Int32) (mm : Mem) (H : Heap) (locs : List Loc) (ls : Array Slot), fX8_ended_j16 (eS E) s0 mm = some (r, mm1) → wS E s mm H locs → lv_has ls 1 [] → W p l e R s m args below meth c H locs 0 0 Q (F0 m 16 ls [.int s0]) := by
    intro s0 mm H locs ls hf hS hl
    unfold fX8_ended_j16 at hf
    obtain ⟨v1, h1, hf⟩ := bs hf
    obtain ⟨rfl, h2⟩ := ckZ_n h1
    cases hf
    exact hret _ _ _ _ h2 dX8_ended_16 hS
  intro H locs ls hS hl
  refine lv_aload_n hx hb dX8_ended_0 rfl (lv_at hl 0 rfl) ?_
  obtain ⟨u0, h0, hf⟩ := bs hf
  obtain ⟨_, hrc⟩ := isO_n h0
  obtain ⟨v2, m3, h1, hf⟩ := bs2 hf
  refine am_endi hS (am_runV (As := []) X (hml.trans hl.1.symm) hS (cX8_next_ok (l := l) (E := E) h1) mv_X8_31 hrc rfl ⟨Nat.le_trans (by decide) hR.1, Nat.le_trans (by decide) hR.2⟩ ⟨Nat.zero_le _, Nat.zero_le _⟩ rfl rfl (Nat.le_of_ble_eq_true rfl) dX8_ended_1) (fun H locs hS => ?_)
  refine lv_aload_n hx hb dX8_ended_4 rfl (lv_at hl 0 rfl) ?_
  obtain ⟨v4, h1, hf⟩ := bs hf
  refine am_gi X hS fl_X8_22 rfl h1 dX8_ended_5 ?_
  refine lv_icmp_lt (tgt := 15) hx hb dX8_ended_8 (by decide) (fun q5 => ?_) (fun q5 => ?_)
  · have hf := ifp hf q5
    refine lv_iconst (v := 0) hx hb dX8_ended_15 (by decide) ?_
    exact hj16 0 m3 H locs ls hf hS (lv_sub hl [] rfl)
  · have hf := ifn hf q5
    refine lv_iconst (v := 1) hx hb dX8_ended_11 (by decide) ?_
    refine lv_goto (tgt := 16) hx hb dX8_ended_12 (by decide) ?_
    exact hj16 1 m3 H locs ls hf hS (lv_sub hl [] rfl)
set_option maxRecDepth 100000 in
theorem cX8_ended_ok {l : Launch} {E : Ev} {x0 : Nat} {mm : Mem} {r : Int32} {mm1 : Mem} (hf : fX8_ended (eS E) x0 mm = some (r, mm1)) : CtI l yX8_ended cX8_ended 1 (some .boolean) 1 20 E [.ref x0] mm r mm1 := by
  refine Met.ofW (cc := cX8_ended) (maxL := 1) (ret := (some .boolean)) (by decide) rfl ?_
  intro p e s m args below meth c s₁ B hml hv
  obtain ⟨rfl, X, hS, hr, hlocks⟩ := am_in B hv
  refine am_entry (Nat.le_of_ble_eq_true rfl) (fun ls hl => ?_)
  exact wX8_ended X hml ⟨Nat.le_refl _, Nat.le_refl _⟩ hf (fun pc H locs ls hn hd hS => am_ri X hS hr hn hd hlocks) _ _ ls hS hl
set_option maxHeartbeats 4000000 in
set_option maxRecDepth 100000 in
theorem wX8_isDigit {p : Program} {l : Launch} {e : Env} {R : Room} {s : State} {m : MethodId} {args : Array Value} {below : List Frame} {meth : Method} {c : Code} {Q : State → Prop} {E : Ev} (X : Cx p s m args c cX8_isDigit RX8 E) (hml : c.maxLocals = 1) (hR : 0 ≤ R.frames ∧ 0 ≤ R.locals) {x0 : Int32} {mm : Mem} {r : Int32} (hf : fX8_isDigit x0 = some r) (hret : ∀ (pc : Nat) (H : Heap) (locs : List Loc) (ls : Array Slot), narrow .boolean (.int r) = .int r → decode cX8_isDigit pc = .ok (.ireturn, 1) → wS E s mm H locs → W p l e R s m args below meth c H locs 0 0 Q (F0 m pc ls [.int r])) : ∀ (H : Heap) (locs : List Loc) (ls : Array Slot), wS E s mm H locs → lv_has ls 1 [(0, .int x0)] → W p l e R s m args below meth c H locs 0 0 Q (F0 m 0 ls []) := by
  have hx := X.1
  have hb := X.2.1
  unfold fX8_isDigit at hf
  have hj17 : ∀ (s0 : Int32) (H : Heap) (locs : List Loc) (ls : Array Slot), fX8_isDigit_j17 s0 = some r → wS E s mm H locs → lv_has ls 1 [] → W p l e R s m args below meth c H locs 0 0 Q (F0 m 17 ls [.int s0]) := by
    intro s0 H locs ls hf hS hl
    unfold fX8_isDigit_j17 at hf
    obtain ⟨v1, h1, hf⟩ := bs hf
    obtain ⟨rfl, h2⟩ := ckZ_n h1
    cases hf
    exact hret _ _ _ _ h2 dX8_isDigit_17 hS
  have hj16 : ∀ (H : Heap) (locs : List Loc) (ls : Array Slot), fX8_isDigit_j16 = some r → wS E s mm H locs → lv_has ls 1 [] → W p l e R s m args below meth c H locs 0 0 Q (F0 m 16 ls []) := by
    intro H locs ls hf hS hl
    unfold fX8_isDigit_j16 at hf
    refine lv_iconst (v := 0) hx hb dX8_isDigit_16 (by decide) ?_
    exact hj17 0 H locs ls hf hS hl
  intro H locs ls hS hl
  refine lv_iload_n hx hb dX8_isDigit_0 rfl (lv_at hl 0 rfl) ?_
  refine lv_bipush (v := 48) hx hb dX8_isDigit_1 (by decide) ?_
  refine lv_icmp_lt (tgt := 16) hx hb dX8_isDigit_3 (by decide) (fun q2 => ?_) (fun q2 => ?_)
  · have hf := ifp hf q2
    exact hj16  H locs ls hf hS (lv_sub hl [] rfl)
  · have hf := ifn hf q2
    refine lv_iload_n hx hb dX8_isDigit_6 rfl (lv_at hl 0 rfl) ?_
    refine lv_bipush (v := 57) hx hb dX8_isDigit_7 (by decide) ?_
    refine lv_icmp_gt (tgt := 16) hx hb dX8_isDigit_9 (by decide) (fun q3 => ?_) (fun q3 => ?_)
    · have hf := ifp hf q3
      exact hj16  H locs ls hf hS (lv_sub hl [] rfl)
    · have hf := ifn hf q3
      refine lv_iconst (v := 1) hx hb dX8_isDigit_12 (by decide) ?_
      refine lv_goto (tgt := 17) hx hb dX8_isDigit_13 (by decide) ?_
      exact hj17 1 H locs ls hf hS (lv_sub hl [] rfl)
set_option maxRecDepth 100000 in
theorem cX8_isDigit_ok {l : Launch} {E : Ev} {x0 : Int32} {mm : Mem} {r : Int32} (hf : fX8_isDigit x0 = some r) : CtI l yX8_isDigit cX8_isDigit 1 (some .boolean) 0 0 E [.int x0] mm r mm := by
  refine Met.ofW (cc := cX8_isDigit) (maxL := 1) (ret := (some .boolean)) (by decide) rfl ?_
  intro p e s m args below meth c s₁ B hml hv
  obtain ⟨rfl, X, hS, hr, hlocks⟩ := am_in B hv
  refine am_entry (Nat.le_of_ble_eq_true rfl) (fun ls hl => ?_)
  exact wX8_isDigit X hml ⟨Nat.le_refl _, Nat.le_refl _⟩ hf (fun pc H locs ls hn hd hS => am_ri X hS hr hn hd hlocks) _ _ ls hS hl
set_option maxHeartbeats 4000000 in
set_option maxRecDepth 100000 in
theorem wX8_fail {p : Program} {l : Launch} {e : Env} {R : Room} {s : State} {m : MethodId} {args : Array Value} {below : List Frame} {meth : Method} {c : Code} {Q : State → Prop} {E : Ev} (X : Cx p s m args c cX8_fail RX8 E) (hml : c.maxLocals = 3) (hR : 0 ≤ R.frames ∧ 0 ≤ R.locals) {x0 : Nat} {x1 : Int32} {x2 : Int32} {mm : Mem} {r : Int32} {mm1 : Mem} (hf : fX8_fail (eS E) x0 x1 x2 mm = some (r, mm1)) (hret : ∀ (pc : Nat) (H : Heap) (locs : List Loc) (ls : Array Slot), narrow .boolean (.int r) = .int r → decode cX8_fail pc = .ok (.ireturn, 1) → wS E s mm1 H locs → W p l e R s m args below meth c H locs 0 0 Q (F0 m pc ls [.int r])) : ∀ (H : Heap) (locs : List Loc) (ls : Array Slot), wS E s mm H locs → lv_has ls 3 [(0, .ref x0), (1, .int x1), (2, .int x2)] → W p l e R s m args below meth c H locs 0 0 Q (F0 m 0 ls []) := by
  have hx := X.1
  have hb := X.2.1
  unfold fX8_fail at hf
  have hj17 : ∀ (mm : Mem) (H : Heap) (locs : List Loc) (ls : Array Slot), fX8_fail_j17 (eS E) mm = some (r, mm1) → wS E s mm H locs → lv_has ls 3 [] → W p l e R s m args below meth c H locs 0 0 Q (F0 m 17 ls []) := by
    intro mm H locs ls hf hS hl
    unfold fX8_fail_j17 at hf
    refine lv_iconst (v := 0) hx hb dX8_fail_17 (by decide) ?_
    cases hf
    exact hret _ _ _ _ rfl dX8_fail_18 hS
  intro H locs ls hS hl
  refine lv_aload_n hx hb dX8_fail_0 rfl (lv_at hl 0 rfl) ?_
  obtain ⟨v1, h1, hf⟩ := bs hf
  refine am_gi X hS fl_X8_28 rfl h1 dX8_fail_1 ?_
  refine lv_if_ne (tgt := 17) hx hb dX8_fail_4 (by decide) (fun q2 => ?_) (fun q2 => ?_)
  · have hf := ifn hf q2
    exact hj17 mm H locs ls hf hS (lv_sub hl [] rfl)
  · have hf := ifp hf q2
    refine lv_aload_n hx hb dX8_fail_7 rfl (lv_at hl 0 rfl) ?_
    refine lv_iload_n hx hb dX8_fail_8 rfl (lv_at hl 1 rfl) ?_
    obtain ⟨m3, h1, hf⟩ := bs hf
    refine am_pi X hS fp_X8_28 rfl h1 dX8_fail_9 (fun H locs hS => ?_)
    refine lv_aload_n hx hb dX8_fail_12 rfl (lv_at hl 0 rfl) ?_
    refine lv_iload_n hx hb dX8_fail_13 rfl (lv_at hl 2 rfl) ?_
    obtain ⟨m4, h1, hf⟩ := bs hf
    refine am_pi X hS fp_X8_15 rfl h1 dX8_fail_14 (fun H locs hS => ?_)
    exact hj17 m4 H locs ls hf hS (lv_sub hl [] rfl)
set_option maxRecDepth 100000 in
theorem cX8_fail_ok {l : Launch} {E : Ev} {x0 : Nat} {x1 : Int32} {x2 : Int32} {mm : Mem} {r : Int32} {mm1 : Mem} (hf : fX8_fail (eS E) x0 x1 x2 mm = some (r, mm1)) : CtI l yX8_fail cX8_fail 3 (some .boolean) 0 0 E [.ref x0, .int x1, .int x2] mm r mm1 := by
  refine Met.ofW (cc := cX8_fail) (maxL := 3) (ret := (some .boolean)) (by decide) rfl ?_
  intro p e s m args below meth c s₁ B hml hv
  obtain ⟨rfl, X, hS, hr, hlocks⟩ := am_in B hv
  refine am_entry (Nat.le_of_ble_eq_true rfl) (fun ls hl => ?_)
  exact wX8_fail X hml ⟨Nat.le_refl _, Nat.le_refl _⟩ hf (fun pc H locs ls hn hd hS => am_ri X hS hr hn hd hlocks) _ _ ls hS hl
set_option maxHeartbeats 4000000 in
set_option maxRecDepth 100000 in
theorem wX8_number {p : Program} {l : Launch} {e : Env} {R : Room} {s : State} {m : MethodId} {args : Array Value} {below : List Frame} {meth : Method} {c : Code} {Q : State → Prop} {E : Ev} (X : Cx p s m args c cX8_number RX8 E) (hml : c.maxLocals = 5) (hR : 1 ≤ R.frames ∧ 23 ≤ R.locals) {x0 : Nat} {x1 : Int32} {x2 : Int32} {mm : Mem} {r : Int32} {mm1 : Mem} (hf : fX8_number (eS E) x0 x1 x2 mm = some (r, mm1)) (hret : ∀ (pc : Nat) (H : Heap) (locs : List Loc) (ls : Array Slot), narrow .int (.int r) = .int r → decode cX8_number pc = .ok (.ireturn, 1) → wS E s mm1 H locs → W p l e R s m args below meth c H locs 0 0 Q (F0 m pc ls [.int r])) : ∀ (H : Heap) (locs : List Loc) (ls : Array Slot), wS E s mm H locs → lv_has ls 5 [(0, .ref x0), (1, .int x1), (2, .int x2)] → W p l e R s m args below meth c H locs 0 0 Q (F0 m 0 ls []) := by
  have hx := X.1
  have hb := X.2.1
  unfold fX8_number at hf
  have hj101 : ∀ (x0 : Nat) (x3 : Int32) (mm : Mem) (H : Heap) (locs : List Loc) (ls : Array Slot), fX8_number_j101 (eS E) x0 x3 mm = some (r, mm1) → wS E s mm H locs → lv_has ls 5 [(0, .ref x0), (3, .int x3)] → W p l e R s m args below meth c H locs 0 0 Q (F0 m 101 ls []) := by
    intro x0 x3 mm H locs ls hf hS hl
    unfold fX8_number_j101 at hf
    refine lv_aload_n hx hb dX8_number_101 rfl (lv_at hl 0 rfl) ?_
    refine lv_iconst (v := 2) hx hb dX8_number_102 (by decide) ?_
    refine lv_iload_n hx hb dX8_number_103 rfl (lv_at hl 1 rfl) ?_
    obtain ⟨u0, h0, hf⟩ := bs hf
    obtain ⟨_, hrc⟩ := isO_n h0
    obtain ⟨v1, m2, h1, hf⟩ := bs2 hf
    refine am_endi hS (am_runV (As := [.int 2, .int x3]) X (hml.trans hl.1.symm) hS (cX8_fail_ok (l := l) (E := E) h1) mv_X8_43 hrc rfl ⟨Nat.le_trans (by decide) hR.1, Nat.le_trans (by decide) hR.2⟩ ⟨Nat.zero_le _, Nat.zero_le _⟩ rfl rfl (Nat.le_of_ble_eq_true rfl) dX8_number_104) (fun H locs hS => ?_)
    refine lv_pop hx hb dX8_number_107 rfl ?_
    refine lv_iconst (v := (-1)) hx hb dX8_number_108 (by decide) ?_
    cases hf
    exact hret _ _ _ _ rfl dX8_number_109 hS
  have hj72 : ∀ (x0 : Nat) (x1 : Int32) (x2 : Int32) (x3 : Int32) (x4 : Int32) (mm : Mem) (H : Heap) (locs : List Loc) (ls : Array Slot), fX8_number_j72 (eS E) x0 x1 x2 x3 x4 mm = some (r, mm1) → wS E s mm H locs → lv_has ls 5 [(0, .ref x0), (1, .int x1), (2, .int x2), (3, .int x3), (4, .int x4)] → W p l e R s m args below meth c H locs 0 0 Q (F0 m 72 ls []) := by
    intro x0 x1 x2 x3 x4 mm H locs ls hf hS hl
    unfold fX8_number_j72 at hf
    refine lv_aload_n hx hb dX8_number_72 rfl (lv_at hl 0 rfl) ?_
    obtain ⟨v3, h1, hf⟩ := bs hf
    refine am_gi X hS fl_X8_25 rfl h1 dX8_number_73 ?_
    refine lv_iload_n hx hb dX8_number_76 rfl (lv_at hl 3 rfl) ?_
    refine lv_icmp_ne (tgt := 89) hx hb dX8_number_77 (by decide) (fun q4 => ?_) (fun q4 => ?_)
    · have hf := ifn hf q4
      refine lv_iload hx hb dX8_number_89 (lv_at hl 4 rfl) ?_
      refine lv_iload_n hx hb dX8_number_91 rfl (lv_at hl 1 rfl) ?_
      refine lv_icmp_lt (tgt := 101) hx hb dX8_number_92 (by decide) (fun q5 => ?_) (fun q5 => ?_)
      · have hf := ifp hf q5
        exact hj101 x0 x3 mm H locs ls hf hS (lv_sub hl [0, 3] rfl)
      · have hf := ifn hf q5
        refine lv_iload hx hb dX8_number_95 (lv_at hl 4 rfl) ?_
        refine lv_iload_n hx hb dX8_number_97 rfl (lv_at hl 2 rfl) ?_
        refine lv_icmp_le (tgt := 110) hx hb dX8_number_98 (by decide) (fun q6 => ?_) (fun q6 => ?_)
        · have hf := ifp hf q6
          refine lv_iload hx hb dX8_number_110 (lv_at hl 4 rfl) ?_
          cases hf
          exact hret _ _ _ _ rfl dX8_number_112 hS
        · have hf := ifn hf q6
          exact hj101 x0 x3 mm H locs ls hf hS (lv_sub hl [0, 3] rfl)
    · have hf := ifp hf q4
      refine lv_aload_n hx hb dX8_number_80 rfl (lv_at hl 0 rfl) ?_
      refine lv_iconst (v := 1) hx hb dX8_number_81 (by decide) ?_
      refine lv_iload_n hx hb dX8_number_82 rfl (lv_at hl 3 rfl) ?_
      obtain ⟨u0, h0, hf⟩ := bs hf
      obtain ⟨_, hrc⟩ := isO_n h0
      obtain ⟨v7, m8, h1, hf⟩ := bs2 hf
      refine am_endi hS (am_runV (As := [.int 1, .int x3]) X (hml.trans hl.1.symm) hS (cX8_fail_ok (l := l) (E := E) h1) mv_X8_43 hrc rfl ⟨Nat.le_trans (by decide) hR.1, Nat.le_trans (by decide) hR.2⟩ ⟨Nat.zero_le _, Nat.zero_le _⟩ rfl rfl (Nat.le_of_ble_eq_true rfl) dX8_number_83) (fun H locs hS => ?_)
      refine lv_pop hx hb dX8_number_86 rfl ?_
      refine lv_iconst (v := (-1)) hx hb dX8_number_87 (by decide) ?_
      cases hf
      exact hret _ _ _ _ rfl dX8_number_88 hS
  intro H locs ls hS hl
  refine lv_aload_n hx hb dX8_number_0 rfl (lv_at hl 0 rfl) ?_
  obtain ⟨u0, h0, hf⟩ := bs hf
  obtain ⟨_, hrc⟩ := isO_n h0
  obtain ⟨v9, m10, h1, hf⟩ := bs2 hf
  refine am_endi hS (am_runV (As := []) X (hml.trans hl.1.symm) hS (cX8_next_ok (l := l) (E := E) h1) mv_X8_31 hrc rfl ⟨Nat.le_trans (by decide) hR.1, Nat.le_trans (by decide) hR.2⟩ ⟨Nat.zero_le _, Nat.zero_le _⟩ rfl rfl (Nat.le_of_ble_eq_true rfl) dX8_number_1) (fun H locs hS => ?_)
  refine lv_topi (fun x3_11 e1 => ?_)
  have hf := lt1_n e1 hf
  refine lv_istore_n (lv' := [(3, .int x3_11), (0, .ref x0), (1, .int x1), (2, .int x2)]) hx hb dX8_number_4 rfl hl (by decide) rfl (fun ls hl => ?_)
  refine lv_iconst (v := 0) hx hb dX8_number_5 (by decide) ?_
  refine lv_topi (fun x4_12 e1 => ?_)
  have hf := lt1_n e1 hf
  refine lv_istore (lv' := [(4, .int x4_12), (3, .int x3_11), (0, .ref x0), (1, .int x1), (2, .int x2)]) hx hb dX8_number_6 hl (by decide) rfl (fun ls hl => ?_)
  obtain ⟨ex8, hl8, hk8⟩ := bs hf
  refine loop_W (P := fun st => ∀ (H : Heap) (locs : List Loc) (ls : Array Slot), wS E s st.2 H locs → lv_has ls 5 [(0, .ref x0), (1, .int x1), (2, .int x2), (3, .int x3_11), (4, .int st.1)] → W p l e R s m args below meth c H locs 0 0 Q (F0 m 8 ls [])) (ex := ex8) ?_ FU _ hl8 H locs ls hS (lv_sub hl [2, 3, 4, 1, 0] rfl)
  intro st y8 hf hyL8 hyR8 H locs ls hS hl
  obtain ⟨x4, mm⟩ := st
  obtain ⟨x3, rfl⟩ : ∃ z, z = x3_11 := ⟨_, rfl⟩
  have hf : fX8_number_b8 (eS E) x0 x1 x2 x3 x4 mm = some y8 := hf
  have hS : wS E s mm H locs := hS
  have hl : lv_has ls 5 [(0, .ref x0), (1, .int x1), (2, .int x2), (3, .int x3), (4, .int x4)] := hl
  unfold fX8_number_b8 at hf
  refine lv_aload_n hx hb dX8_number_8 rfl (lv_at hl 0 rfl) ?_
  obtain ⟨v13, h1, hf⟩ := bs hf
  refine am_gi X hS fl_X8_25 rfl h1 dX8_number_9 ?_
  refine lv_aload_n hx hb dX8_number_12 rfl (lv_at hl 0 rfl) ?_
  obtain ⟨v14, h1, hf⟩ := bs hf
  refine am_gi X hS fl_X8_22 rfl h1 dX8_number_13 ?_
  refine lv_icmp_ge (tgt := 72) hx hb dX8_number_16 (by decide) (fun q15 => ?_) (fun q15 => ?_)
  · have hf := ifp hf q15
    obtain rfl : (x4, mm) = ex8 := hyR8 _ (Option.some.inj hf).symm
    exact hj72 x0 x1 x2 x3 x4 mm H locs ls hk8 hS hl
  · have hf := ifn hf q15
    refine lv_aload_n hx hb dX8_number_19 rfl (lv_at hl 0 rfl) ?_
    obtain ⟨a16, h1, hf⟩ := bs hf
    refine am_gr X hS fl_X8_9 rfl h1 dX8_number_20 ?_
    refine lv_aload_n hx hb dX8_number_23 rfl (lv_at hl 0 rfl) ?_
    obtain ⟨v17, h1, hf⟩ := bs hf
    refine am_gi X hS fl_X8_25 rfl h1 dX8_number_24 ?_
    obtain ⟨v18, h1, hf⟩ := bs hf
    refine am_ald X hS h1 dX8_number_27 ?_
    obtain ⟨v19, h1, hf⟩ := bs hf
    refine am_endi hS (am_runS (As := [.int v18]) X (hml.trans hl.1.symm) hS (cX8_isDigit_ok (l := l) (E := E) h1) ms_X8_35 ⟨Nat.le_trans (by decide) hR.1, Nat.le_trans (by decide) hR.2⟩ ⟨Nat.zero_le _, Nat.zero_le _⟩ rfl rfl (Nat.le_of_ble_eq_true rfl) dX8_number_28) (fun H locs hS => ?_)
    refine lv_if_eq (tgt := 72) hx hb dX8_number_31 (by decide) (fun q20 => ?_) (fun q20 => ?_)
    · have hf := ifp hf q20
      obtain rfl : (x4, mm) = ex8 := hyR8 _ (Option.some.inj hf).symm
      exact hj72 x0 x1 x2 x3 x4 mm H locs ls hk8 hS hl
    · have hf := ifn hf q20
      refine lv_ldc (v := 100000) hx hb X.2.2.2.1 (X.2.2.1 _ (inBi 733 (by decide +kernel))) dX8_number_34 ?_
      refine lv_iload hx hb dX8_number_36 (lv_at hl 4 rfl) ?_
      refine lv_bipush (v := 10) hx hb dX8_number_38 (by decide) ?_
      refine lv_imul hx hb dX8_number_40 ?_
      refine lv_aload_n hx hb dX8_number_41 rfl (lv_at hl 0 rfl) ?_
      obtain ⟨a21, h1, hf⟩ := bs hf
      refine am_gr X hS fl_X8_9 rfl h1 dX8_number_42 ?_
      refine lv_aload_n hx hb dX8_number_45 rfl (lv_at hl 0 rfl) ?_
      obtain ⟨v22, h1, hf⟩ := bs hf
      refine am_gi X hS fl_X8_25 rfl h1 dX8_number_46 ?_
      obtain ⟨v23, h1, hf⟩ := bs hf
      refine am_ald X hS h1 dX8_number_49 ?_
      refine lv_iadd hx hb dX8_number_50 ?_
      refine lv_bipush (v := 48) hx hb dX8_number_51 (by decide) ?_
      refine lv_isub hx hb dX8_number_53 ?_
      refine va_mmin hx hb (hml.trans hl.1.symm) X.2.2.2.1 (X.2.2.1 _ (inBi 734 (by decide +kernel))) (X.2.2.1 _ (inBi 735 (by decide +kernel))) (X.2.2.1 _ (inBi 116 (by decide +kernel))) (X.2.2.1 _ (inBi 736 (by decide +kernel))) (Nat.le_trans (by decide) hR.1) (Nat.le_trans (Nat.le_of_ble_eq_true rfl) hR.2) (Nat.zero_le _) (Nat.zero_le _) dX8_number_54 ?_
      refine lv_topi (fun x4_24 e1 => ?_)
      have hf := lt1_n e1 hf
      refine lv_istore (lv' := [(4, .int x4_24), (0, .ref x0), (1, .int x1), (2, .int x2), (3, .int x3)]) hx hb dX8_number_57 hl (by decide) rfl (fun ls hl => ?_)
      refine lv_aload_n hx hb dX8_number_59 rfl (lv_at hl 1 rfl) ?_
      refine lv_dup hx hb dX8_number_60 rfl ?_
      obtain ⟨v25, h1, hf⟩ := bs hf
      refine am_gi X hS fl_X8_25 rfl h1 dX8_number_61 ?_
      refine lv_iconst (v := 1) hx hb dX8_number_64 (by decide) ?_
      refine lv_iadd hx hb dX8_number_65 ?_
      obtain ⟨m26, h1, hf⟩ := bs hf
      refine am_pi X hS fp_X8_25 rfl h1 dX8_number_66 (fun H locs hS => ?_)
      refine lv_goto (tgt := 8) hx hb dX8_number_69 (by decide) ?_
      exact hyL8 _ (Option.some.inj hf).symm H locs ls hS (lv_sub hl [1, 2, 3, 4, 0] rfl)
set_option maxRecDepth 100000 in
theorem cX8_number_ok {l : Launch} {E : Ev} {x0 : Nat} {x1 : Int32} {x2 : Int32} {mm : Mem} {r : Int32} {mm1 : Mem} (hf : fX8_number (eS E) x0 x1 x2 mm = some (r, mm1)) : CtI l yX8_number cX8_number 5 (some .int) 1 23 E [.ref x0, .int x1, .int x2] mm r mm1 := by
  refine Met.ofW (cc := cX8_number) (maxL := 5) (ret := (some .int)) (by decide) rfl ?_
  intro p e s m args below meth c s₁ B hml hv
  obtain ⟨rfl, X, hS, hr, hlocks⟩ := am_in B hv
  refine am_entry (Nat.le_of_ble_eq_true rfl) (fun ls hl => ?_)
  exact wX8_number X hml ⟨Nat.le_refl _, Nat.le_refl _⟩ hf (fun pc H locs ls hn hd hS => am_ri X hS hr hn hd hlocks) _ _ ls hS hl
set_option maxHeartbeats 4000000 in
set_option maxRecDepth 100000 in
theorem wX8_takes {p : Program} {l : Launch} {e : Env} {R : Room} {s : State} {m : MethodId} {args : Array Value} {below : List Frame} {meth : Method} {c : Code} {Q : State → Prop} {E : Ev} (X : Cx p s m args c cX8_takes RX8 E) (hml : c.maxLocals = 2) (hR : 1 ≤ R.frames ∧ 20 ≤ R.locals) {x0 : Nat} {x1 : Int32} {mm : Mem} {r : Int32} {mm1 : Mem} (hf : fX8_takes (eS E) x0 x1 mm = some (r, mm1)) (hret : ∀ (pc : Nat) (H : Heap) (locs : List Loc) (ls : Array Slot), narrow .boolean (.int r) = .int r → decode cX8_takes pc = .ok (.ireturn, 1) → wS E s mm1 H locs → W p l e R s m args below meth c H locs 0 0 Q (F0 m pc ls [.int r])) : ∀ (H : Heap) (locs : List Loc) (ls : Array Slot), wS E s mm H locs → lv_has ls 2 [(0, .ref x0), (1, .int x1)] → W p l e R s m args below meth c H locs 0 0 Q (F0 m 0 ls []) := by
  have hx := X.1
  have hb := X.2.1
  unfold fX8_takes at hf
  have hj24 : ∀ (mm : Mem) (H : Heap) (locs : List Loc) (ls : Array Slot), fX8_takes_j24 (eS E) mm = some (r, mm1) → wS E s mm H locs → lv_has ls 2 [] → W p l e R s m args below meth c H locs 0 0 Q (F0 m 24 ls []) := by
    intro mm H locs ls hf hS hl
    unfold fX8_takes_j24 at hf
    refine lv_iconst (v := 0) hx hb dX8_takes_24 (by decide) ?_
    cases hf
    exact hret _ _ _ _ rfl dX8_takes_25 hS
  intro H locs ls hS hl
  refine lv_aload_n hx hb dX8_takes_0 rfl (lv_at hl 0 rfl) ?_
  obtain ⟨u0, h0, hf⟩ := bs hf
  obtain ⟨_, hrc⟩ := isO_n h0
  obtain ⟨v1, m2, h1, hf⟩ := bs2 hf
  refine am_endi hS (am_runV (As := []) X (hml.trans hl.1.symm) hS (cX8_next_ok (l := l) (E := E) h1) mv_X8_31 hrc rfl ⟨Nat.le_trans (by decide) hR.1, Nat.le_trans (by decide) hR.2⟩ ⟨Nat.zero_le _, Nat.zero_le _⟩ rfl rfl (Nat.le_of_ble_eq_true rfl) dX8_takes_1) (fun H locs hS => ?_)
  refine lv_aload_n hx hb dX8_takes_4 rfl (lv_at hl 0 rfl) ?_
  obtain ⟨v3, h1, hf⟩ := bs hf
  refine am_gi X hS fl_X8_22 rfl h1 dX8_takes_5 ?_
  refine lv_icmp_ge (tgt := 24) hx hb dX8_takes_8 (by decide) (fun q4 => ?_) (fun q4 => ?_)
  · have hf := ifp hf q4
    exact hj24 m2 H locs ls hf hS (lv_sub hl [] rfl)
  · have hf := ifn hf q4
    refine lv_aload_n hx hb dX8_takes_11 rfl (lv_at hl 0 rfl) ?_
    obtain ⟨a5, h1, hf⟩ := bs hf
    refine am_gr X hS fl_X8_9 rfl h1 dX8_takes_12 ?_
    refine lv_aload_n hx hb dX8_takes_15 rfl (lv_at hl 0 rfl) ?_
    obtain ⟨v6, h1, hf⟩ := bs hf
    refine am_gi X hS fl_X8_25 rfl h1 dX8_takes_16 ?_
    obtain ⟨v7, h1, hf⟩ := bs hf
    refine am_ald X hS h1 dX8_takes_19 ?_
    refine lv_iload_n hx hb dX8_takes_20 rfl (lv_at hl 1 rfl) ?_
    refine lv_icmp_eq (tgt := 26) hx hb dX8_takes_21 (by decide) (fun q8 => ?_) (fun q8 => ?_)
    · have hf := ifp hf q8
      refine lv_aload_n hx hb dX8_takes_26 rfl (lv_at hl 0 rfl) ?_
      refine lv_dup hx hb dX8_takes_27 rfl ?_
      obtain ⟨v9, h1, hf⟩ := bs hf
      refine am_gi X hS fl_X8_25 rfl h1 dX8_takes_28 ?_
      refine lv_iconst (v := 1) hx hb dX8_takes_31 (by decide) ?_
      refine lv_iadd hx hb dX8_takes_32 ?_
      obtain ⟨m10, h1, hf⟩ := bs hf
      refine am_pi X hS fp_X8_25 rfl h1 dX8_takes_33 (fun H locs hS => ?_)
      refine lv_iconst (v := 1) hx hb dX8_takes_36 (by decide) ?_
      cases hf
      exact hret _ _ _ _ rfl dX8_takes_37 hS
    · have hf := ifn hf q8
      exact hj24 m2 H locs ls hf hS (lv_sub hl [] rfl)
set_option maxRecDepth 100000 in
theorem cX8_takes_ok {l : Launch} {E : Ev} {x0 : Nat} {x1 : Int32} {mm : Mem} {r : Int32} {mm1 : Mem} (hf : fX8_takes (eS E) x0 x1 mm = some (r, mm1)) : CtI l yX8_takes cX8_takes 2 (some .boolean) 1 20 E [.ref x0, .int x1] mm r mm1 := by
  refine Met.ofW (cc := cX8_takes) (maxL := 2) (ret := (some .boolean)) (by decide) rfl ?_
  intro p e s m args below meth c s₁ B hml hv
  obtain ⟨rfl, X, hS, hr, hlocks⟩ := am_in B hv
  refine am_entry (Nat.le_of_ble_eq_true rfl) (fun ls hl => ?_)
  exact wX8_takes X hml ⟨Nat.le_refl _, Nat.le_refl _⟩ hf (fun pc H locs ls hn hd hS => am_ri X hS hr hn hd hlocks) _ _ ls hS hl
set_option maxHeartbeats 4000000 in
set_option maxRecDepth 100000 in
theorem wX8_wants {p : Program} {l : Launch} {e : Env} {R : Room} {s : State} {m : MethodId} {args : Array Value} {below : List Frame} {meth : Method} {c : Code} {Q : State → Prop} {E : Ev} (X : Cx p s m args c cX8_wants RX8 E) (hml : c.maxLocals = 2) (hR : 2 ≤ R.frames ∧ 41 ≤ R.locals) {x0 : Nat} {x1 : Int32} {mm : Mem} {r : Int32} {mm1 : Mem} (hf : fX8_wants (eS E) x0 x1 mm = some (r, mm1)) (hret : ∀ (pc : Nat) (H : Heap) (locs : List Loc) (ls : Array Slot), narrow .boolean (.int r) = .int r → decode cX8_wants pc = .ok (.ireturn, 1) → wS E s mm1 H locs → W p l e R s m args below meth c H locs 0 0 Q (F0 m pc ls [.int r])) : ∀ (H : Heap) (locs : List Loc) (ls : Array Slot), wS E s mm H locs → lv_has ls 2 [(0, .ref x0), (1, .int x1)] → W p l e R s m args below meth c H locs 0 0 Q (F0 m 0 ls []) := by
  have hx := X.1
  have hb := X.2.1
  unfold fX8_wants at hf
  have hj25 : ∀ (s0 : Int32) (mm : Mem) (H : Heap) (locs : List Loc) (ls : Array Slot), fX8_wants_j25 (eS E) s0 mm = some (r, mm1) → wS E s mm H locs → lv_has ls 2 [] → W p l e R s m args below meth c H locs 0 0 Q (F0 m 25 ls [.int s0]) := by
    intro s0 mm H locs ls hf hS hl
    unfold fX8_wants_j25 at hf
    obtain ⟨v1, h1, hf⟩ := bs hf
    obtain ⟨rfl, h2⟩ := ckZ_n h1
    cases hf
    exact hret _ _ _ _ h2 dX8_wants_25 hS
  have hj20 : ∀ (mm : Mem) (H : Heap) (locs : List Loc) (ls : Array Slot), fX8_wants_j20 (eS E) mm = some (r, mm1) → wS E s mm H locs → lv_has ls 2 [] → W p l e R s m args below meth c H locs 0 0 Q (F0 m 20 ls []) := by
    intro mm H locs ls hf hS hl
    unfold fX8_wants_j20 at hf
    refine lv_iconst (v := 1) hx hb dX8_wants_20 (by decide) ?_
    refine lv_goto (tgt := 25) hx hb dX8_wants_21 (by decide) ?_
    exact hj25 1 mm H locs ls hf hS hl
  intro H locs ls hS hl
  refine lv_aload_n hx hb dX8_wants_0 rfl (lv_at hl 0 rfl) ?_
  refine lv_iload_n hx hb dX8_wants_1 rfl (lv_at hl 1 rfl) ?_
  obtain ⟨u0, h0, hf⟩ := bs hf
  obtain ⟨_, hrc⟩ := isO_n h0
  obtain ⟨v2, m3, h1, hf⟩ := bs2 hf
  refine am_endi hS (am_runV (As := [.int x1]) X (hml.trans hl.1.symm) hS (cX8_takes_ok (l := l) (E := E) h1) mv_X8_39 hrc rfl ⟨Nat.le_trans (by decide) hR.1, Nat.le_trans (by decide) hR.2⟩ ⟨Nat.zero_le _, Nat.zero_le _⟩ rfl rfl (Nat.le_of_ble_eq_true rfl) dX8_wants_2) (fun H locs hS => ?_)
  refine lv_if_ne (tgt := 20) hx hb dX8_wants_5 (by decide) (fun q4 => ?_) (fun q4 => ?_)
  · have hf := ifn hf q4
    exact hj20 m3 H locs ls hf hS (lv_sub hl [] rfl)
  · have hf := ifp hf q4
    refine lv_aload_n hx hb dX8_wants_8 rfl (lv_at hl 0 rfl) ?_
    refine lv_iconst (v := 1) hx hb dX8_wants_9 (by decide) ?_
    refine lv_aload_n hx hb dX8_wants_10 rfl (lv_at hl 0 rfl) ?_
    obtain ⟨v5, h1, hf⟩ := bs hf
    refine am_gi X hS fl_X8_25 rfl h1 dX8_wants_11 ?_
    obtain ⟨u0, h0, hf⟩ := bs hf
    obtain ⟨_, hrc⟩ := isO_n h0
    obtain ⟨v6, m7, h1, hf⟩ := bs2 hf
    refine am_endi hS (am_runV (As := [.int 1, .int v5]) X (hml.trans hl.1.symm) hS (cX8_fail_ok (l := l) (E := E) h1) mv_X8_43 hrc rfl ⟨Nat.le_trans (by decide) hR.1, Nat.le_trans (by decide) hR.2⟩ ⟨Nat.zero_le _, Nat.zero_le _⟩ rfl rfl (Nat.le_of_ble_eq_true rfl) dX8_wants_14) (fun H locs hS => ?_)
    refine lv_if_eq (tgt := 24) hx hb dX8_wants_17 (by decide) (fun q8 => ?_) (fun q8 => ?_)
    · have hf := ifp hf q8
      refine lv_iconst (v := 0) hx hb dX8_wants_24 (by decide) ?_
      exact hj25 0 m7 H locs ls hf hS (lv_sub hl [] rfl)
    · have hf := ifn hf q8
      exact hj20 m7 H locs ls hf hS (lv_sub hl [] rfl)
set_option maxRecDepth 100000 in
theorem cX8_wants_ok {l : Launch} {E : Ev} {x0 : Nat} {x1 : Int32} {mm : Mem} {r : Int32} {mm1 : Mem} (hf : fX8_wants (eS E) x0 x1 mm = some (r, mm1)) : CtI l yX8_wants cX8_wants 2 (some .boolean) 2 41 E [.ref x0, .int x1] mm r mm1 := by
  refine Met.ofW (cc := cX8_wants) (maxL := 2) (ret := (some .boolean)) (by decide) rfl ?_
  intro p e s m args below meth c s₁ B hml hv
  obtain ⟨rfl, X, hS, hr, hlocks⟩ := am_in B hv
  refine am_entry (Nat.le_of_ble_eq_true rfl) (fun ls hl => ?_)
  exact wX8_wants X hml ⟨Nat.le_refl _, Nat.le_refl _⟩ hf (fun pc H locs ls hn hd hS => am_ri X hS hr hn hd hlocks) _ _ ls hS hl
set_option maxHeartbeats 4000000 in
set_option maxRecDepth 100000 in
theorem wX0_readLine {p : Program} {l : Launch} {e : Env} {R : Room} {s : State} {m : MethodId} {args : Array Value} {below : List Frame} {meth : Method} {c : Code} {Q : State → Prop} {E : Ev} (X : Cx p s m args c cX0_readLine RX0 E) (hml : c.maxLocals = 5) (hR : 3 ≤ R.frames ∧ 62 ≤ R.locals) {x0 : Nat} {x1 : Nat} {x2 : Int32} {mm : Mem} {mm1 : Mem} (hf : fX0_readLine (eS E) x0 x1 x2 mm = some mm1) (hret : ∀ (pc : Nat) (H : Heap) (locs : List Loc) (ls : Array Slot), decode cX0_readLine pc = .ok (.return_, 1) → wS E s mm1 H locs → W p l e R s m args below meth c H locs 0 0 Q (F0 m pc ls [])) : ∀ (H : Heap) (locs : List Loc) (ls : Array Slot), wS E s mm H locs → lv_has ls 5 [(0, .ref x0), (1, .ref x1), (2, .int x2)] → W p l e R s m args below meth c H locs 0 0 Q (F0 m 0 ls []) := by
  have hx := X.1
  have hb := X.2.1
  unfold fX0_readLine at hf
  intro H locs ls hS hl
  refine lv_aload_n hx hb dX0_readLine_0 rfl (lv_at hl 1 rfl) ?_
  obtain ⟨u0, h0, hf⟩ := bs hf
  obtain ⟨_, hrc⟩ := isO_n h0
  obtain ⟨v1, m2, h1, hf⟩ := bs2 hf
  refine am_endi hS (am_runV (As := []) X (hml.trans hl.1.symm) hS (cX8_next_ok (l := l) (E := E) h1) mv_X0_41 hrc rfl ⟨Nat.le_trans (by decide) hR.1, Nat.le_trans (by decide) hR.2⟩ ⟨Nat.zero_le _, Nat.zero_le _⟩ rfl rfl (Nat.le_of_ble_eq_true rfl) dX0_readLine_1) (fun H locs hS => ?_)
  refine lv_topi (fun x3_3 e1 => ?_)
  have hf := lt1_n e1 hf
  refine lv_istore_n (lv' := [(3, .int x3_3), (0, .ref x0), (1, .ref x1), (2, .int x2)]) hx hb dX0_readLine_4 rfl hl (by decide) rfl (fun ls hl => ?_)
  refine lv_aload_n hx hb dX0_readLine_5 rfl (lv_at hl 2 rfl) ?_
  refine lv_iconst (v := 0) hx hb dX0_readLine_6 (by decide) ?_
  refine lv_iload_n hx hb dX0_readLine_7 rfl (lv_at hl 3 rfl) ?_
  refine lv_iconst (v := 1) hx hb dX0_readLine_8 (by decide) ?_
  refine lv_isub hx hb dX0_readLine_9 ?_
  obtain ⟨u0, h0, hf⟩ := bs hf
  obtain ⟨_, hrc⟩ := isO_n h0
  obtain ⟨v4, m5, h1, hf⟩ := bs2 hf
  refine am_endi hS (am_runV (As := [.int 0, .int (x2 - 1)]) X (hml.trans hl.1.symm) hS (cX8_number_ok (l := l) (E := E) h1) mv_X0_45 hrc rfl ⟨Nat.le_trans (by decide) hR.1, Nat.le_trans (by decide) hR.2⟩ ⟨Nat.zero_le _, Nat.zero_le _⟩ rfl rfl (Nat.le_of_ble_eq_true rfl) dX0_readLine_10) (fun H locs hS => ?_)
  refine lv_topi (fun x4_6 e1 => ?_)
  have hf := lt1_n e1 hf
  refine lv_istore (lv' := [(4, .int x4_6), (3, .int x3_3), (0, .ref x0), (1, .ref x1), (2, .int x2)]) hx hb dX0_readLine_13 hl (by decide) rfl (fun ls hl => ?_)
  refine lv_aload_n hx hb dX0_readLine_15 rfl (lv_at hl 2 rfl) ?_
  obtain ⟨v7, h1, hf⟩ := bs hf
  refine am_gi X hS fl_X0_24 rfl h1 dX0_readLine_16 ?_
  refine lv_bipush (v := 8) hx hb dX0_readLine_19 (by decide) ?_
  refine lv_icmp_lt (tgt := 32) hx hb dX0_readLine_21 (by decide) (fun q8 => ?_) (fun q8 => ?_)
  · have hf := ifp hf q8
    refine lv_aload_n hx hb dX0_readLine_32 rfl (lv_at hl 2 rfl) ?_
    obtain ⟨a9, h1, hf⟩ := bs hf
    refine am_gr X hS fl_X0_9 rfl h1 dX0_readLine_33 ?_
    refine lv_aload_n hx hb dX0_readLine_36 rfl (lv_at hl 2 rfl) ?_
    obtain ⟨v10, h1, hf⟩ := bs hf
    refine am_gi X hS fl_X0_24 rfl h1 dX0_readLine_37 ?_
    refine lv_iload hx hb dX0_readLine_40 (lv_at hl 0 rfl) ?_
    obtain ⟨m11, h1, hf⟩ := bs hf
    refine am_ast X hS h1 dX0_readLine_42 (fun H locs hS => ?_)
    refine lv_aload_n hx hb dX0_readLine_43 rfl (lv_at hl 2 rfl) ?_
    obtain ⟨a12, h1, hf⟩ := bs hf
    refine am_gr X hS fl_X0_15 rfl h1 dX0_readLine_44 ?_
    refine lv_aload_n hx hb dX0_readLine_47 rfl (lv_at hl 2 rfl) ?_
    obtain ⟨v13, h1, hf⟩ := bs hf
    refine am_gi X hS fl_X0_24 rfl h1 dX0_readLine_48 ?_
    refine lv_aload_n hx hb dX0_readLine_51 rfl (lv_at hl 3 rfl) ?_
    refine lv_iconst (v := 0) hx hb dX0_readLine_52 (by decide) ?_
    refine lv_sipush (v := 400) hx hb dX0_readLine_53 (by decide) ?_
    obtain ⟨u0, h0, hf⟩ := bs hf
    obtain ⟨_, hrc⟩ := isO_n h0
    obtain ⟨v14, m15, h1, hf⟩ := bs2 hf
    refine am_endi hS (am_runV (As := [.int 0, .int 400]) X (hml.trans hl.1.symm) hS (cX8_number_ok (l := l) (E := E) h1) mv_X0_45 hrc rfl ⟨Nat.le_trans (by decide) hR.1, Nat.le_trans (by decide) hR.2⟩ ⟨Nat.zero_le _, Nat.zero_le _⟩ rfl rfl (Nat.le_of_ble_eq_true rfl) dX0_readLine_56) (fun H locs hS => ?_)
    obtain ⟨m16, h1, hf⟩ := bs hf
    refine am_ast X hS h1 dX0_readLine_59 (fun H locs hS => ?_)
    refine lv_aload_n hx hb dX0_readLine_60 rfl (lv_at hl 2 rfl) ?_
    refine lv_dup hx hb dX0_readLine_61 rfl ?_
    obtain ⟨v17, h1, hf⟩ := bs hf
    refine am_gi X hS fl_X0_24 rfl h1 dX0_readLine_62 ?_
    refine lv_iconst (v := 1) hx hb dX0_readLine_65 (by decide) ?_
    refine lv_iadd hx hb dX0_readLine_66 ?_
    obtain ⟨m18, h1, hf⟩ := bs hf
    refine am_pi X hS fp_X0_24 rfl h1 dX0_readLine_67 (fun H locs hS => ?_)
    refine lv_aload_n hx hb dX0_readLine_70 rfl (lv_at hl 3 rfl) ?_
    refine lv_bipush (v := 59) hx hb dX0_readLine_71 (by decide) ?_
    obtain ⟨u0, h0, hf⟩ := bs hf
    obtain ⟨_, hrc⟩ := isO_n h0
    obtain ⟨v19, m20, h1, hf⟩ := bs2 hf
    refine am_endi hS (am_runV (As := [.int 59]) X (hml.trans hl.1.symm) hS (cX8_wants_ok (l := l) (E := E) h1) mv_X0_53 hrc rfl ⟨Nat.le_trans (by decide) hR.1, Nat.le_trans (by decide) hR.2⟩ ⟨Nat.zero_le _, Nat.zero_le _⟩ rfl rfl (Nat.le_of_ble_eq_true rfl) dX0_readLine_73) (fun H locs hS => ?_)
    refine lv_pop hx hb dX0_readLine_76 rfl ?_
    cases hf
    exact hret _ _ _ _ dX0_readLine_77 hS
  · have hf := ifn hf q8
    refine lv_aload_n hx hb dX0_readLine_24 rfl (lv_at hl 3 rfl) ?_
    refine lv_iconst (v := 3) hx hb dX0_readLine_25 (by decide) ?_
    refine lv_iload_n hx hb dX0_readLine_26 rfl (lv_at hl 1 rfl) ?_
    obtain ⟨u0, h0, hf⟩ := bs hf
    obtain ⟨_, hrc⟩ := isO_n h0
    obtain ⟨v21, m22, h1, hf⟩ := bs2 hf
    refine am_endi hS (am_runV (As := [.int 3, .int x3_3]) X (hml.trans hl.1.symm) hS (cX8_fail_ok (l := l) (E := E) h1) mv_X0_49 hrc rfl ⟨Nat.le_trans (by decide) hR.1, Nat.le_trans (by decide) hR.2⟩ ⟨Nat.zero_le _, Nat.zero_le _⟩ rfl rfl (Nat.le_of_ble_eq_true rfl) dX0_readLine_27) (fun H locs hS => ?_)
    refine lv_pop hx hb dX0_readLine_30 rfl ?_
    cases hf
    exact hret _ _ _ _ dX0_readLine_31 hS
set_option maxRecDepth 100000 in
theorem cX0_readLine_ok {l : Launch} {E : Ev} {x0 : Nat} {x1 : Nat} {x2 : Int32} {mm : Mem} {mm1 : Mem} (hf : fX0_readLine (eS E) x0 x1 x2 mm = some mm1) : CtV l yX0_readLine cX0_readLine 5 none 3 62 E [.ref x0, .ref x1, .int x2] mm mm1 := by
  refine Met.ofW (cc := cX0_readLine) (maxL := 5) (ret := none) (by decide) rfl ?_
  intro p e s m args below meth c s₁ B hml hv
  obtain ⟨rfl, X, hS, hr, hlocks⟩ := am_in B hv
  refine am_entry (Nat.le_of_ble_eq_true rfl) (fun ls hl => ?_)
  exact wX0_readLine X hml ⟨Nat.le_refl _, Nat.le_refl _⟩ hf (fun pc H locs ls hd hS => am_rv X hS hr hd hlocks) _ _ ls hS hl
set_option maxHeartbeats 4000000 in
set_option maxRecDepth 100000 in
theorem wX8_isWhole {p : Program} {l : Launch} {e : Env} {R : Room} {s : State} {m : MethodId} {args : Array Value} {below : List Frame} {meth : Method} {c : Code} {Q : State → Prop} {E : Ev} (X : Cx p s m args c cX8_isWhole RX8 E) (hml : c.maxLocals = 1) (hR : 0 ≤ R.frames ∧ 0 ≤ R.locals) {x0 : Nat} {mm : Mem} {r : Int32} (hf : fX8_isWhole (eS E) x0 mm = some r) (hret : ∀ (pc : Nat) (H : Heap) (locs : List Loc) (ls : Array Slot), narrow .boolean (.int r) = .int r → decode cX8_isWhole pc = .ok (.ireturn, 1) → wS E s mm H locs → W p l e R s m args below meth c H locs 0 0 Q (F0 m pc ls [.int r])) : ∀ (H : Heap) (locs : List Loc) (ls : Array Slot), wS E s mm H locs → lv_has ls 1 [(0, .ref x0)] → W p l e R s m args below meth c H locs 0 0 Q (F0 m 0 ls []) := by
  have hx := X.1
  have hb := X.2.1
  unfold fX8_isWhole at hf
  have hj12 : ∀ (s0 : Int32) (H : Heap) (locs : List Loc) (ls : Array Slot), fX8_isWhole_j12 (eS E) s0 mm = some r → wS E s mm H locs → lv_has ls 1 [] → W p l e R s m args below meth c H locs 0 0 Q (F0 m 12 ls [.int s0]) := by
    intro s0 H locs ls hf hS hl
    unfold fX8_isWhole_j12 at hf
    obtain ⟨v1, h1, hf⟩ := bs hf
    obtain ⟨rfl, h2⟩ := ckZ_n h1
    cases hf
    exact hret _ _ _ _ h2 dX8_isWhole_12 hS
  intro H locs ls hS hl
  refine lv_aload_n hx hb dX8_isWhole_0 rfl (lv_at hl 0 rfl) ?_
  obtain ⟨v2, h1, hf⟩ := bs hf
  refine am_gi X hS fl_X8_28 rfl h1 dX8_isWhole_1 ?_
  refine lv_if_ne (tgt := 11) hx hb dX8_isWhole_4 (by decide) (fun q3 => ?_) (fun q3 => ?_)
  · have hf := ifn hf q3
    refine lv_iconst (v := 0) hx hb dX8_isWhole_11 (by decide) ?_
    exact hj12 0 H locs ls hf hS (lv_sub hl [] rfl)
  · have hf := ifp hf q3
    refine lv_iconst (v := 1) hx hb dX8_isWhole_7 (by decide) ?_
    refine lv_goto (tgt := 12) hx hb dX8_isWhole_8 (by decide) ?_
    exact hj12 1 H locs ls hf hS (lv_sub hl [] rfl)
set_option maxRecDepth 100000 in
theorem cX8_isWhole_ok {l : Launch} {E : Ev} {x0 : Nat} {mm : Mem} {r : Int32} (hf : fX8_isWhole (eS E) x0 mm = some r) : CtI l yX8_isWhole cX8_isWhole 1 (some .boolean) 0 0 E [.ref x0] mm r mm := by
  refine Met.ofW (cc := cX8_isWhole) (maxL := 1) (ret := (some .boolean)) (by decide) rfl ?_
  intro p e s m args below meth c s₁ B hml hv
  obtain ⟨rfl, X, hS, hr, hlocks⟩ := am_in B hv
  refine am_entry (Nat.le_of_ble_eq_true rfl) (fun ls hl => ?_)
  exact wX8_isWhole X hml ⟨Nat.le_refl _, Nat.le_refl _⟩ hf (fun pc H locs ls hn hd hS => am_ri X hS hr hn hd hlocks) _ _ ls hS hl
set_option maxHeartbeats 4000000 in
set_option maxRecDepth 100000 in
theorem wX0_read {p : Program} {l : Launch} {e : Env} {R : Room} {s : State} {m : MethodId} {args : Array Value} {below : List Frame} {meth : Method} {c : Code} {Q : State → Prop} {E : Ev} (X : Cx p s m args c cX0_read RX0 E) (hml : c.maxLocals = 4) (hR : 4 ≤ R.frames ∧ 86 ≤ R.locals) {x0 : Nat} {x1 : Nat} {x2 : Int32} {mm : Mem} {r : Int32} {mm1 : Mem} (hf : fX0_read (eS E) x0 x1 x2 mm = some (r, mm1)) (hret : ∀ (pc : Nat) (H : Heap) (locs : List Loc) (ls : Array Slot), narrow .boolean (.int r) = .int r → decode cX0_read pc = .ok (.ireturn, 1) → wS E s mm1 H locs → W p l e R s m args below meth c H locs 0 0 Q (F0 m pc ls [.int r])) : ∀ (H : Heap) (locs : List Loc) (ls : Array Slot), wS E s mm H locs → lv_has ls 4 [(0, .ref x0), (1, .ref x1), (2, .int x2)] → W p l e R s m args below meth c H locs 0 0 Q (F0 m 0 ls []) := by
  have hx := X.1
  have hb := X.2.1
  unfold fX0_read at hf
  have hj41 : ∀ (mm : Mem) (H : Heap) (locs : List Loc) (ls : Array Slot), fX0_read_j41 (eS E) mm = some (r, mm1) → wS E s mm H locs → lv_has ls 4 [] → W p l e R s m args below meth c H locs 0 0 Q (F0 m 41 ls []) := by
    intro mm H locs ls hf hS hl
    unfold fX0_read_j41 at hf
    refine lv_iconst (v := 1) hx hb dX0_read_41 (by decide) ?_
    cases hf
    exact hret _ _ _ _ rfl dX0_read_42 hS
  have hj33 : ∀ (mm : Mem) (H : Heap) (locs : List Loc) (ls : Array Slot), fX0_read_j33 (eS E) mm = some (r, mm1) → wS E s mm H locs → lv_has ls 4 [] → W p l e R s m args below meth c H locs 0 0 Q (F0 m 33 ls []) := by
    intro mm H locs ls hf hS hl
    unfold fX0_read_j33 at hf
    refine lv_iconst (v := 0) hx hb dX0_read_33 (by decide) ?_
    cases hf
    exact hret _ _ _ _ rfl dX0_read_34 hS
  intro H locs ls hS hl
  refine lv_aload_n hx hb dX0_read_0 rfl (lv_at hl 0 rfl) ?_
  refine lv_iconst (v := 0) hx hb dX0_read_1 (by decide) ?_
  obtain ⟨m1, h1, hf⟩ := bs hf
  refine am_pi X hS fp_X0_24 rfl h1 dX0_read_2 (fun H locs hS => ?_)
  refine lv_iconst (v := 0) hx hb dX0_read_5 (by decide) ?_
  refine lv_topi (fun x3_2 e1 => ?_)
  have hf := lt1_n e1 hf
  refine lv_istore_n (lv' := [(3, .int x3_2), (0, .ref x0), (1, .ref x1), (2, .int x2)]) hx hb dX0_read_6 rfl hl (by decide) rfl (fun ls hl => ?_)
  obtain ⟨ex7, hl7, hk7⟩ := bs hf
  refine loop_W (P := fun st => ∀ (H : Heap) (locs : List Loc) (ls : Array Slot), wS E s st.2 H locs → lv_has ls 4 [(0, .ref x0), (1, .ref x1), (2, .int x2), (3, .int st.1)] → W p l e R s m args below meth c H locs 0 0 Q (F0 m 7 ls [])) (ex := ex7) ?_ FU _ hl7 H locs ls hS (lv_sub hl [1, 2, 3, 0] rfl)
  intro st y7 hf hyL7 hyR7 H locs ls hS hl
  obtain ⟨x3, mm⟩ := st
  have hf : fX0_read_b7 (eS E) x0 x1 x2 x3 mm = some y7 := hf
  have hS : wS E s mm H locs := hS
  have hl : lv_has ls 4 [(0, .ref x0), (1, .ref x1), (2, .int x2), (3, .int x3)] := hl
  unfold fX0_read_b7 at hf
  refine lv_iload_n hx hb dX0_read_7 rfl (lv_at hl 3 rfl) ?_
  refine lv_bipush (v := 8) hx hb dX0_read_8 (by decide) ?_
  refine lv_icmp_gt (tgt := 41) hx hb dX0_read_10 (by decide) (fun q3 => ?_) (fun q3 => ?_)
  · have hf := ifp hf q3
    obtain rfl : Sum.inr (mm) = ex7 := hyR7 _ (Option.some.inj hf).symm
    exact hj41 mm H locs ls hk7 hS (lv_sub hl [] rfl)
  · have hf := ifn hf q3
    refine lv_aload_n hx hb dX0_read_13 rfl (lv_at hl 1 rfl) ?_
    obtain ⟨u0, h0, hf⟩ := bs hf
    obtain ⟨_, hrc⟩ := isO_n h0
    obtain ⟨v4, m5, h1, hf⟩ := bs2 hf
    refine am_endi hS (am_runV (As := []) X (hml.trans hl.1.symm) hS (cX8_ended_ok (l := l) (E := E) h1) mv_X0_28 hrc rfl ⟨Nat.le_trans (by decide) hR.1, Nat.le_trans (by decide) hR.2⟩ ⟨Nat.zero_le _, Nat.zero_le _⟩ rfl rfl (Nat.le_of_ble_eq_true rfl) dX0_read_14) (fun H locs hS => ?_)
    refine lv_if_ne (tgt := 41) hx hb dX0_read_17 (by decide) (fun q6 => ?_) (fun q6 => ?_)
    · have hf := ifn hf q6
      obtain rfl : Sum.inr (m5) = ex7 := hyR7 _ (Option.some.inj hf).symm
      exact hj41 m5 H locs ls hk7 hS (lv_sub hl [] rfl)
    · have hf := ifp hf q6
      refine lv_aload_n hx hb dX0_read_20 rfl (lv_at hl 0 rfl) ?_
      refine lv_aload_n hx hb dX0_read_21 rfl (lv_at hl 1 rfl) ?_
      refine lv_iload_n hx hb dX0_read_22 rfl (lv_at hl 2 rfl) ?_
      obtain ⟨u0, h0, hf⟩ := bs hf
      obtain ⟨_, hrc⟩ := isO_n h0
      obtain ⟨m7, h1, hf⟩ := bs hf
      refine am_endv hS (am_runV (As := [.ref x1, .int x2]) X (hml.trans hl.1.symm) hS (cX0_readLine_ok (l := l) (E := E) h1) mv_X0_34 hrc rfl ⟨Nat.le_trans (by decide) hR.1, Nat.le_trans (by decide) hR.2⟩ ⟨Nat.zero_le _, Nat.zero_le _⟩ rfl rfl (Nat.le_of_ble_eq_true rfl) dX0_read_23) (fun H locs hS => ?_)
      refine lv_aload_n hx hb dX0_read_26 rfl (lv_at hl 1 rfl) ?_
      obtain ⟨u0, h0, hf⟩ := bs hf
      obtain ⟨_, hrc⟩ := isO_n h0
      obtain ⟨v8, h1, hf⟩ := bs hf
      refine am_endi hS (am_runV (As := []) X (hml.trans hl.1.symm) hS (cX8_isWhole_ok (l := l) (E := E) h1) mv_X0_38 hrc rfl ⟨Nat.le_trans (by decide) hR.1, Nat.le_trans (by decide) hR.2⟩ ⟨Nat.zero_le _, Nat.zero_le _⟩ rfl rfl (Nat.le_of_ble_eq_true rfl) dX0_read_27) (fun H locs hS => ?_)
      refine lv_if_ne (tgt := 35) hx hb dX0_read_30 (by decide) (fun q9 => ?_) (fun q9 => ?_)
      · have hf := ifn hf q9
        obtain ⟨x3_10, e1⟩ : ∃ z : Int32, z = x3 + 1 := ⟨_, rfl⟩
        have hf := lt1_n e1 hf
        refine lv_iinc (v := x3_10) (lv' := [(3, .int x3_10), (0, .ref x0), (1, .ref x1), (2, .int x2)]) hx hb dX0_read_35 hl (k := 3) rfl (by rw [e1]; rfl) (by decide) rfl (fun ls hl => ?_)
        refine lv_goto (tgt := 7) hx hb dX0_read_38 (by decide) ?_
        exact hyL7 _ (Option.some.inj hf).symm H locs ls hS (lv_sub hl [1, 2, 3, 0] rfl)
      · have hf := ifp hf q9
        obtain rfl : Sum.inl m7 = ex7 := hyR7 _ (Option.some.inj hf).symm
        exact hj33 m7 H locs ls hk7 hS (lv_sub hl [] rfl)
set_option maxRecDepth 100000 in
theorem cX0_read_ok {l : Launch} {E : Ev} {x0 : Nat} {x1 : Nat} {x2 : Int32} {mm : Mem} {r : Int32} {mm1 : Mem} (hf : fX0_read (eS E) x0 x1 x2 mm = some (r, mm1)) : CtI l yX0_read cX0_read 4 (some .boolean) 4 86 E [.ref x0, .ref x1, .int x2] mm r mm1 := by
  refine Met.ofW (cc := cX0_read) (maxL := 4) (ret := (some .boolean)) (by decide) rfl ?_
  intro p e s m args below meth c s₁ B hml hv
  obtain ⟨rfl, X, hS, hr, hlocks⟩ := am_in B hv
  refine am_entry (Nat.le_of_ble_eq_true rfl) (fun ls hl => ?_)
  exact wX0_read X hml ⟨Nat.le_refl _, Nat.le_refl _⟩ hf (fun pc H locs ls hn hd hS => am_ri X hS hr hn hd hlocks) _ _ ls hS hl
set_option maxHeartbeats 4000000 in
set_option maxRecDepth 100000 in
theorem wX0_tells {p : Program} {l : Launch} {e : Env} {R : Room} {s : State} {m : MethodId} {args : Array Value} {below : List Frame} {meth : Method} {c : Code} {Q : State → Prop} {E : Ev} (X : Cx p s m args c cX0_tells RX0 E) (hml : c.maxLocals = 3) (hR : 0 ≤ R.frames ∧ 0 ≤ R.locals) {x0 : Nat} {x1 : Int32} {mm : Mem} {r : Int32} (hf : fX0_tells (eS E) x0 x1 mm = some r) (hret : ∀ (pc : Nat) (H : Heap) (locs : List Loc) (ls : Array Slot), narrow .boolean (.int r) = .int r → decode cX0_tells pc = .ok (.ireturn, 1) → wS E s mm H locs → W p l e R s m args below meth c H locs 0 0 Q (F0 m pc ls [.int r])) : ∀ (H : Heap) (locs : List Loc) (ls : Array Slot), wS E s mm H locs → lv_has ls 3 [(0, .ref x0), (1, .int x1)] → W p l e R s m args below meth c H locs 0 0 Q (F0 m 0 ls []) := by
  have hx := X.1
  have hb := X.2.1
  unfold fX0_tells at hf
  have hj28 : ∀ (H : Heap) (locs : List Loc) (ls : Array Slot), fX0_tells_j28 (eS E) mm = some r → wS E s mm H locs → lv_has ls 3 [] → W p l e R s m args below meth c H locs 0 0 Q (F0 m 28 ls []) := by
    intro H locs ls hf hS hl
    unfold fX0_tells_j28 at hf
    refine lv_iconst (v := 0) hx hb dX0_tells_28 (by decide) ?_
    cases hf
    exact hret _ _ _ _ rfl dX0_tells_29 hS
  have hj20 : ∀ (H : Heap) (locs : List Loc) (ls : Array Slot), fX0_tells_j20 (eS E) mm = some r → wS E s mm H locs → lv_has ls 3 [] → W p l e R s m args below meth c H locs 0 0 Q (F0 m 20 ls []) := by
    intro H locs ls hf hS hl
    unfold fX0_tells_j20 at hf
    refine lv_iconst (v := 1) hx hb dX0_tells_20 (by decide) ?_
    cases hf
    exact hret _ _ _ _ rfl dX0_tells_21 hS
  intro H locs ls hS hl
  refine lv_iconst (v := 0) hx hb dX0_tells_0 (by decide) ?_
  refine lv_topi (fun x2_1 e1 => ?_)
  have hf := lt1_n e1 hf
  refine lv_istore_n (lv' := [(2, .int x2_1), (0, .ref x0), (1, .int x1)]) hx hb dX0_tells_1 rfl hl (by decide) rfl (fun ls hl => ?_)
  obtain ⟨ex2, hl2, hk2⟩ := bs hf
  refine loop_W (P := fun st => ∀ (H : Heap) (locs : List Loc) (ls : Array Slot), wS E s mm H locs → lv_has ls 3 [(0, .ref x0), (1, .int x1), (2, .int st)] → W p l e R s m args below meth c H locs 0 0 Q (F0 m 2 ls [])) (ex := ex2) ?_ FU _ hl2 H locs ls hS (lv_sub hl [1, 2, 0] rfl)
  intro st y2 hf hyL2 hyR2 H locs ls hS hl
  obtain ⟨x2, rfl⟩ : ∃ z, z = st := ⟨_, rfl⟩
  have hf : fX0_tells_b2 (eS E) x0 x1 x2 mm = some y2 := hf
  have hS : wS E s mm H locs := hS
  have hl : lv_has ls 3 [(0, .ref x0), (1, .int x1), (2, .int x2)] := hl
  unfold fX0_tells_b2 at hf
  refine lv_iload_n hx hb dX0_tells_2 rfl (lv_at hl 2 rfl) ?_
  refine lv_aload_n hx hb dX0_tells_3 rfl (lv_at hl 0 rfl) ?_
  obtain ⟨v2, h1, hf⟩ := bs hf
  refine am_gi X hS fl_X0_24 rfl h1 dX0_tells_4 ?_
  refine lv_icmp_ge (tgt := 28) hx hb dX0_tells_7 (by decide) (fun q3 => ?_) (fun q3 => ?_)
  · have hf := ifp hf q3
    obtain rfl : Sum.inr (()) = ex2 := hyR2 _ (Option.some.inj hf).symm
    exact hj28  H locs ls hk2 hS (lv_sub hl [] rfl)
  · have hf := ifn hf q3
    refine lv_aload_n hx hb dX0_tells_10 rfl (lv_at hl 0 rfl) ?_
    obtain ⟨a4, h1, hf⟩ := bs hf
    refine am_gr X hS fl_X0_9 rfl h1 dX0_tells_11 ?_
    refine lv_iload_n hx hb dX0_tells_14 rfl (lv_at hl 2 rfl) ?_
    obtain ⟨v5, h1, hf⟩ := bs hf
    refine am_ald X hS h1 dX0_tells_15 ?_
    refine lv_iload_n hx hb dX0_tells_16 rfl (lv_at hl 1 rfl) ?_
    refine lv_icmp_ne (tgt := 22) hx hb dX0_tells_17 (by decide) (fun q6 => ?_) (fun q6 => ?_)
    · have hf := ifn hf q6
      obtain ⟨x2_7, e1⟩ : ∃ z : Int32, z = x2 + 1 := ⟨_, rfl⟩
      have hf := lt1_n e1 hf
      refine lv_iinc (v := x2_7) (lv' := [(2, .int x2_7), (0, .ref x0), (1, .int x1)]) hx hb dX0_tells_22 hl (k := 2) rfl (by rw [e1]; rfl) (by decide) rfl (fun ls hl => ?_)
      refine lv_goto (tgt := 2) hx hb dX0_tells_25 (by decide) ?_
      exact hyL2 _ (Option.some.inj hf).symm H locs ls hS (lv_sub hl [1, 2, 0] rfl)
    · have hf := ifp hf q6
      obtain rfl : Sum.inl () = ex2 := hyR2 _ (Option.some.inj hf).symm
      exact hj20  H locs ls hk2 hS (lv_sub hl [] rfl)
set_option maxRecDepth 100000 in
theorem cX0_tells_ok {l : Launch} {E : Ev} {x0 : Nat} {x1 : Int32} {mm : Mem} {r : Int32} (hf : fX0_tells (eS E) x0 x1 mm = some r) : CtI l yX0_tells cX0_tells 3 (some .boolean) 0 0 E [.ref x0, .int x1] mm r mm := by
  refine Met.ofW (cc := cX0_tells) (maxL := 3) (ret := (some .boolean)) (by decide) rfl ?_
  intro p e s m args below meth c s₁ B hml hv
  obtain ⟨rfl, X, hS, hr, hlocks⟩ := am_in B hv
  refine am_entry (Nat.le_of_ble_eq_true rfl) (fun ls hl => ?_)
  exact wX0_tells X hml ⟨Nat.le_refl _, Nat.le_refl _⟩ hf (fun pc H locs ls hn hd hS => am_ri X hS hr hn hd hlocks) _ _ ls hS hl
set_option maxHeartbeats 4000000 in
set_option maxRecDepth 100000 in
theorem wX0_isRight {p : Program} {l : Launch} {e : Env} {R : Room} {s : State} {m : MethodId} {args : Array Value} {below : List Frame} {meth : Method} {c : Code} {Q : State → Prop} {E : Ev} (X : Cx p s m args c cX0_isRight RX0 E) (hml : c.maxLocals = 4) (hR : 0 ≤ R.frames ∧ 0 ≤ R.locals) {x0 : Nat} {x1 : Nat} {mm : Mem} {r : Int32} (hf : fX0_isRight (eS E) x0 x1 mm = some r) (hret : ∀ (pc : Nat) (H : Heap) (locs : List Loc) (ls : Array Slot), narrow .boolean (.int r) = .int r → decode cX0_isRight pc = .ok (.ireturn, 1) → wS E s mm H locs → W p l e R s m args below meth c H locs 0 0 Q (F0 m pc ls [.int r])) : ∀ (H : Heap) (locs : List Loc) (ls : Array Slot), wS E s mm H locs → lv_has ls 4 [(0, .ref x0), (1, .ref x1)] → W p l e R s m args below meth c H locs 0 0 Q (F0 m 0 ls []) := by
  have hx := X.1
  have hb := X.2.1
  unfold fX0_isRight at hf
  have hj47 : ∀ (H : Heap) (locs : List Loc) (ls : Array Slot), fX0_isRight_j47 (eS E) mm = some r → wS E s mm H locs → lv_has ls 4 [] → W p l e R s m args below meth c H locs 0 0 Q (F0 m 47 ls []) := by
    intro H locs ls hf hS hl
    unfold fX0_isRight_j47 at hf
    refine lv_iconst (v := 1) hx hb dX0_isRight_47 (by decide) ?_
    cases hf
    exact hret _ _ _ _ rfl dX0_isRight_48 hS
  have hj39 : ∀ (H : Heap) (locs : List Loc) (ls : Array Slot), fX0_isRight_j39 (eS E) mm = some r → wS E s mm H locs → lv_has ls 4 [] → W p l e R s m args below meth c H locs 0 0 Q (F0 m 39 ls []) := by
    intro H locs ls hf hS hl
    unfold fX0_isRight_j39 at hf
    refine lv_iconst (v := 0) hx hb dX0_isRight_39 (by decide) ?_
    cases hf
    exact hret _ _ _ _ rfl dX0_isRight_40 hS
  intro H locs ls hS hl
  refine lv_iconst (v := 0) hx hb dX0_isRight_0 (by decide) ?_
  refine lv_topi (fun x2_1 e1 => ?_)
  have hf := lt1_n e1 hf
  refine lv_istore_n (lv' := [(2, .int x2_1), (0, .ref x0), (1, .ref x1)]) hx hb dX0_isRight_1 rfl hl (by decide) rfl (fun ls hl => ?_)
  obtain ⟨ex2, hl2, hk2⟩ := bs hf
  refine loop_W (P := fun st => ∀ (H : Heap) (locs : List Loc) (ls : Array Slot), wS E s mm H locs → lv_has ls 4 [(0, .ref x0), (1, .ref x1), (2, .int st)] → W p l e R s m args below meth c H locs 0 0 Q (F0 m 2 ls [])) (ex := ex2) ?_ FU _ hl2 H locs ls hS (lv_sub hl [1, 2, 0] rfl)
  intro st y2 hf hyL2 hyR2 H locs ls hS hl
  obtain ⟨x2, rfl⟩ : ∃ z, z = st := ⟨_, rfl⟩
  have hf : fX0_isRight_b2 (eS E) x0 x1 x2 mm = some y2 := hf
  have hS : wS E s mm H locs := hS
  have hl : lv_has ls 4 [(0, .ref x0), (1, .ref x1), (2, .int x2)] := hl
  unfold fX0_isRight_b2 at hf
  refine lv_iload_n hx hb dX0_isRight_2 rfl (lv_at hl 2 rfl) ?_
  refine lv_aload_n hx hb dX0_isRight_3 rfl (lv_at hl 0 rfl) ?_
  obtain ⟨v2, h1, hf⟩ := bs hf
  refine am_gi X hS fl_X0_24 rfl h1 dX0_isRight_4 ?_
  refine lv_icmp_ge (tgt := 47) hx hb dX0_isRight_7 (by decide) (fun q3 => ?_) (fun q3 => ?_)
  · have hf := ifp hf q3
    obtain rfl : Sum.inr (()) = ex2 := hyR2 _ (Option.some.inj hf).symm
    exact hj47  H locs ls hk2 hS (lv_sub hl [] rfl)
  · have hf := ifn hf q3
    refine lv_aload_n hx hb dX0_isRight_10 rfl (lv_at hl 0 rfl) ?_
    obtain ⟨a4, h1, hf⟩ := bs hf
    refine am_gr X hS fl_X0_9 rfl h1 dX0_isRight_11 ?_
    refine lv_iload_n hx hb dX0_isRight_14 rfl (lv_at hl 2 rfl) ?_
    obtain ⟨v5, h1, hf⟩ := bs hf
    refine am_ald X hS h1 dX0_isRight_15 ?_
    refine lv_topi (fun x3_6 e1 => ?_)
    have hf := lt1_n e1 hf
    refine lv_istore_n (lv' := [(3, .int x3_6), (0, .ref x0), (1, .ref x1), (2, .int x2)]) hx hb dX0_isRight_16 rfl hl (by decide) rfl (fun ls hl => ?_)
    refine lv_iload_n hx hb dX0_isRight_17 rfl (lv_at hl 0 rfl) ?_
    refine lv_if_lt (tgt := 39) hx hb dX0_isRight_18 (by decide) (fun q7 => ?_) (fun q7 => ?_)
    · have hf := ifp hf q7
      obtain rfl : Sum.inl () = ex2 := hyR2 _ (Option.some.inj hf).symm
      exact hj39  H locs ls hk2 hS (lv_sub hl [] rfl)
    · have hf := ifn hf q7
      refine lv_iload_n hx hb dX0_isRight_21 rfl (lv_at hl 0 rfl) ?_
      refine lv_aload_n hx hb dX0_isRight_22 rfl (lv_at hl 2 rfl) ?_
      obtain ⟨v8, h1, hf⟩ := bs hf
      refine am_len X hS h1 dX0_isRight_23 ?_
      refine lv_icmp_ge (tgt := 39) hx hb dX0_isRight_24 (by decide) (fun q9 => ?_) (fun q9 => ?_)
      · have hf := ifp hf q9
        obtain rfl : Sum.inl () = ex2 := hyR2 _ (Option.some.inj hf).symm
        exact hj39  H locs ls hk2 hS (lv_sub hl [] rfl)
      · have hf := ifn hf q9
        refine lv_aload_n hx hb dX0_isRight_27 rfl (lv_at hl 2 rfl) ?_
        refine lv_iload_n hx hb dX0_isRight_28 rfl (lv_at hl 0 rfl) ?_
        obtain ⟨v10, h1, hf⟩ := bs hf
        refine am_ald X hS h1 dX0_isRight_29 ?_
        refine lv_aload_n hx hb dX0_isRight_30 rfl (lv_at hl 1 rfl) ?_
        obtain ⟨a11, h1, hf⟩ := bs hf
        refine am_gr X hS fl_X0_15 rfl h1 dX0_isRight_31 ?_
        refine lv_iload_n hx hb dX0_isRight_34 rfl (lv_at hl 3 rfl) ?_
        obtain ⟨v12, h1, hf⟩ := bs hf
        refine am_ald X hS h1 dX0_isRight_35 ?_
        refine lv_icmp_eq (tgt := 41) hx hb dX0_isRight_36 (by decide) (fun q13 => ?_) (fun q13 => ?_)
        · have hf := ifp hf q13
          obtain ⟨x2_14, e1⟩ : ∃ z : Int32, z = x2 + 1 := ⟨_, rfl⟩
          have hf := lt1_n e1 hf
          refine lv_iinc (v := x2_14) (lv' := [(2, .int x2_14), (3, .int x3_6), (0, .ref x0), (1, .ref x1)]) hx hb dX0_isRight_41 hl (k := 3) rfl (by rw [e1]; rfl) (by decide) rfl (fun ls hl => ?_)
          refine lv_goto (tgt := 2) hx hb dX0_isRight_44 (by decide) ?_
          exact hyL2 _ (Option.some.inj hf).symm H locs ls hS (lv_sub hl [2, 3, 0] rfl)
        · have hf := ifn hf q13
          obtain rfl : Sum.inl () = ex2 := hyR2 _ (Option.some.inj hf).symm
          exact hj39  H locs ls hk2 hS (lv_sub hl [] rfl)
set_option maxRecDepth 100000 in
theorem cX0_isRight_ok {l : Launch} {E : Ev} {x0 : Nat} {x1 : Nat} {mm : Mem} {r : Int32} (hf : fX0_isRight (eS E) x0 x1 mm = some r) : CtI l yX0_isRight cX0_isRight 4 (some .boolean) 0 0 E [.ref x0, .ref x1] mm r mm := by
  refine Met.ofW (cc := cX0_isRight) (maxL := 4) (ret := (some .boolean)) (by decide) rfl ?_
  intro p e s m args below meth c s₁ B hml hv
  obtain ⟨rfl, X, hS, hr, hlocks⟩ := am_in B hv
  refine am_entry (Nat.le_of_ble_eq_true rfl) (fun ls hl => ?_)
  exact wX0_isRight X hml ⟨Nat.le_refl _, Nat.le_refl _⟩ hf (fun pc H locs ls hn hd hS => am_ri X hS hr hn hd hlocks) _ _ ls hS hl
set_option maxHeartbeats 4000000 in
set_option maxRecDepth 100000 in
theorem wX1_copyFrom {p : Program} {l : Launch} {e : Env} {R : Room} {s : State} {m : MethodId} {args : Array Value} {below : List Frame} {meth : Method} {c : Code} {Q : State → Prop} {E : Ev} (X : Cx p s m args c cX1_copyFrom RX1 E) (hml : c.maxLocals = 2) (hR : 1 ≤ R.frames ∧ 60 ≤ R.locals) {x0 : Nat} {x1 : Nat} {mm : Mem} {mm1 : Mem} (hf : fX1_copyFrom (eS E) x0 x1 mm = some mm1) (hret : ∀ (pc : Nat) (H : Heap) (locs : List Loc) (ls : Array Slot), decode cX1_copyFrom pc = .ok (.return_, 1) → wS E s mm1 H locs → W p l e R s m args below meth c H locs 0 0 Q (F0 m pc ls [])) : ∀ (H : Heap) (locs : List Loc) (ls : Array Slot), wS E s mm H locs → lv_has ls 2 [(0, .ref x0), (1, .ref x1)] → W p l e R s m args below meth c H locs 0 0 Q (F0 m 0 ls []) := by
  have hx := X.1
  have hb := X.2.1
  unfold fX1_copyFrom at hf
  intro H locs ls hS hl
  refine lv_aload_n hx hb dX1_copyFrom_0 rfl (lv_at hl 1 rfl) ?_
  obtain ⟨a1, h1, hf⟩ := bs hf
  refine am_gr X hS fl_X1_9 rfl h1 dX1_copyFrom_1 ?_
  refine lv_iconst (v := 0) hx hb dX1_copyFrom_4 (by decide) ?_
  refine lv_aload_n hx hb dX1_copyFrom_5 rfl (lv_at hl 0 rfl) ?_
  obtain ⟨a2, h1, hf⟩ := bs hf
  refine am_gr X hS fl_X1_9 rfl h1 dX1_copyFrom_6 ?_
  refine lv_iconst (v := 0) hx hb dX1_copyFrom_9 (by decide) ?_
  refine lv_bipush (v := 42) hx hb dX1_copyFrom_10 (by decide) ?_
  obtain ⟨m3, h1, hf⟩ := bs hf
  refine am_cpy X (hml.trans hl.1.symm) hS h1 (inBi 753 (by decide +kernel)) (inBi 520 (by decide +kernel)) (inBi 519 (by decide +kernel)) (inBi 117 (by decide +kernel)) (Nat.le_trans (by decide) hR.1) (Nat.le_trans (by decide) hR.2) dX1_copyFrom_12 (fun H locs hS => ?_)
  refine lv_aload_n hx hb dX1_copyFrom_15 rfl (lv_at hl 1 rfl) ?_
  obtain ⟨a4, h1, hf⟩ := bs hf
  refine am_gr X hS fl_X1_15 rfl h1 dX1_copyFrom_16 ?_
  refine lv_iconst (v := 0) hx hb dX1_copyFrom_19 (by decide) ?_
  refine lv_aload_n hx hb dX1_copyFrom_20 rfl (lv_at hl 0 rfl) ?_
  obtain ⟨a5, h1, hf⟩ := bs hf
  refine am_gr X hS fl_X1_15 rfl h1 dX1_copyFrom_21 ?_
  refine lv_iconst (v := 0) hx hb dX1_copyFrom_24 (by decide) ?_
  refine lv_bipush (v := 8) hx hb dX1_copyFrom_25 (by decide) ?_
  obtain ⟨m6, h1, hf⟩ := bs hf
  refine am_cpy X (hml.trans hl.1.symm) hS h1 (inBi 753 (by decide +kernel)) (inBi 520 (by decide +kernel)) (inBi 519 (by decide +kernel)) (inBi 117 (by decide +kernel)) (Nat.le_trans (by decide) hR.1) (Nat.le_trans (by decide) hR.2) dX1_copyFrom_27 (fun H locs hS => ?_)
  refine lv_aload_n hx hb dX1_copyFrom_30 rfl (lv_at hl 1 rfl) ?_
  obtain ⟨a7, h1, hf⟩ := bs hf
  refine am_gr X hS fl_X1_18 rfl h1 dX1_copyFrom_31 ?_
  refine lv_iconst (v := 0) hx hb dX1_copyFrom_34 (by decide) ?_
  refine lv_aload_n hx hb dX1_copyFrom_35 rfl (lv_at hl 0 rfl) ?_
  obtain ⟨a8, h1, hf⟩ := bs hf
  refine am_gr X hS fl_X1_18 rfl h1 dX1_copyFrom_36 ?_
  refine lv_iconst (v := 0) hx hb dX1_copyFrom_39 (by decide) ?_
  refine lv_bipush (v := 8) hx hb dX1_copyFrom_40 (by decide) ?_
  obtain ⟨m9, h1, hf⟩ := bs hf
  refine am_cpy X (hml.trans hl.1.symm) hS h1 (inBi 753 (by decide +kernel)) (inBi 520 (by decide +kernel)) (inBi 519 (by decide +kernel)) (inBi 117 (by decide +kernel)) (Nat.le_trans (by decide) hR.1) (Nat.le_trans (by decide) hR.2) dX1_copyFrom_42 (fun H locs hS => ?_)
  refine lv_aload_n hx hb dX1_copyFrom_45 rfl (lv_at hl 0 rfl) ?_
  refine lv_aload_n hx hb dX1_copyFrom_46 rfl (lv_at hl 1 rfl) ?_
  obtain ⟨v10, h1, hf⟩ := bs hf
  refine am_gi X hS fl_X1_31 rfl h1 dX1_copyFrom_47 ?_
  obtain ⟨m11, h1, hf⟩ := bs hf
  refine am_pi X hS fp_X1_31 rfl h1 dX1_copyFrom_50 (fun H locs hS => ?_)
  refine lv_aload_n hx hb dX1_copyFrom_53 rfl (lv_at hl 0 rfl) ?_
  refine lv_aload_n hx hb dX1_copyFrom_54 rfl (lv_at hl 1 rfl) ?_
  obtain ⟨v12, h1, hf⟩ := bs hf
  refine am_gi X hS fl_X1_34 rfl h1 dX1_copyFrom_55 ?_
  obtain ⟨m13, h1, hf⟩ := bs hf
  refine am_pi X hS fp_X1_34 rfl h1 dX1_copyFrom_58 (fun H locs hS => ?_)
  refine lv_aload_n hx hb dX1_copyFrom_61 rfl (lv_at hl 0 rfl) ?_
  refine lv_aload_n hx hb dX1_copyFrom_62 rfl (lv_at hl 1 rfl) ?_
  obtain ⟨v14, h1, hf⟩ := bs hf
  refine am_gi X hS fl_X1_21 rfl h1 dX1_copyFrom_63 ?_
  obtain ⟨m15, h1, hf⟩ := bs hf
  refine am_pi X hS fp_X1_21 rfl h1 dX1_copyFrom_66 (fun H locs hS => ?_)
  cases hf
  exact hret _ _ _ _ dX1_copyFrom_69 hS
set_option maxRecDepth 100000 in
theorem cX1_copyFrom_ok {l : Launch} {E : Ev} {x0 : Nat} {x1 : Nat} {mm : Mem} {mm1 : Mem} (hf : fX1_copyFrom (eS E) x0 x1 mm = some mm1) : CtV l yX1_copyFrom cX1_copyFrom 2 none 1 60 E [.ref x0, .ref x1] mm mm1 := by
  refine Met.ofW (cc := cX1_copyFrom) (maxL := 2) (ret := none) (by decide) rfl ?_
  intro p e s m args below meth c s₁ B hml hv
  obtain ⟨rfl, X, hS, hr, hlocks⟩ := am_in B hv
  refine am_entry (Nat.le_of_ble_eq_true rfl) (fun ls hl => ?_)
  exact wX1_copyFrom X hml ⟨Nat.le_refl _, Nat.le_refl _⟩ hf (fun pc H locs ls hd hS => am_rv X hS hr hd hlocks) _ _ ls hS hl
set_option maxHeartbeats 4000000 in
set_option maxRecDepth 100000 in
theorem wX1_parts {p : Program} {l : Launch} {e : Env} {R : Room} {s : State} {m : MethodId} {args : Array Value} {below : List Frame} {meth : Method} {c : Code} {Q : State → Prop} {E : Ev} (X : Cx p s m args c cX1_parts RX1 E) (hml : c.maxLocals = 2) (hR : 0 ≤ R.frames ∧ 0 ≤ R.locals) {x0 : Nat} {x1 : Int32} {mm : Mem} {r : Int32} (hf : fX1_parts (eS E) x0 x1 mm = some r) (hret : ∀ (pc : Nat) (H : Heap) (locs : List Loc) (ls : Array Slot), narrow .boolean (.int r) = .int r → decode cX1_parts pc = .ok (.ireturn, 1) → wS E s mm H locs → W p l e R s m args below meth c H locs 0 0 Q (F0 m pc ls [.int r])) : ∀ (H : Heap) (locs : List Loc) (ls : Array Slot), wS E s mm H locs → lv_has ls 2 [(0, .ref x0), (1, .int x1)] → W p l e R s m args below meth c H locs 0 0 Q (F0 m 0 ls []) := by
  have hx := X.1
  have hb := X.2.1
  unfold fX1_parts at hf
  have hj14 : ∀ (s0 : Int32) (H : Heap) (locs : List Loc) (ls : Array Slot), fX1_parts_j14 (eS E) s0 mm = some r → wS E s mm H locs → lv_has ls 2 [] → W p l e R s m args below meth c H locs 0 0 Q (F0 m 14 ls [.int s0]) := by
    intro s0 H locs ls hf hS hl
    unfold fX1_parts_j14 at hf
    obtain ⟨v1, h1, hf⟩ := bs hf
    obtain ⟨rfl, h2⟩ := ckZ_n h1
    cases hf
    exact hret _ _ _ _ h2 dX1_parts_14 hS
  intro H locs ls hS hl
  refine lv_aload_n hx hb dX1_parts_0 rfl (lv_at hl 0 rfl) ?_
  obtain ⟨a2, h1, hf⟩ := bs hf
  refine am_gr X hS fl_X1_18 rfl h1 dX1_parts_1 ?_
  refine lv_iload_n hx hb dX1_parts_4 rfl (lv_at hl 1 rfl) ?_
  obtain ⟨v3, h1, hf⟩ := bs hf
  refine am_ald X hS h1 dX1_parts_5 ?_
  refine lv_if_ne (tgt := 13) hx hb dX1_parts_6 (by decide) (fun q4 => ?_) (fun q4 => ?_)
  · have hf := ifn hf q4
    refine lv_iconst (v := 0) hx hb dX1_parts_13 (by decide) ?_
    exact hj14 0 H locs ls hf hS (lv_sub hl [] rfl)
  · have hf := ifp hf q4
    refine lv_iconst (v := 1) hx hb dX1_parts_9 (by decide) ?_
    refine lv_goto (tgt := 14) hx hb dX1_parts_10 (by decide) ?_
    exact hj14 1 H locs ls hf hS (lv_sub hl [] rfl)
set_option maxRecDepth 100000 in
theorem cX1_parts_ok {l : Launch} {E : Ev} {x0 : Nat} {x1 : Int32} {mm : Mem} {r : Int32} (hf : fX1_parts (eS E) x0 x1 mm = some r) : CtI l yX1_parts cX1_parts 2 (some .boolean) 0 0 E [.ref x0, .int x1] mm r mm := by
  refine Met.ofW (cc := cX1_parts) (maxL := 2) (ret := (some .boolean)) (by decide) rfl ?_
  intro p e s m args below meth c s₁ B hml hv
  obtain ⟨rfl, X, hS, hr, hlocks⟩ := am_in B hv
  refine am_entry (Nat.le_of_ble_eq_true rfl) (fun ls hl => ?_)
  exact wX1_parts X hml ⟨Nat.le_refl _, Nat.le_refl _⟩ hf (fun pc H locs ls hn hd hS => am_ri X hS hr hn hd hlocks) _ _ ls hS hl
set_option maxHeartbeats 4000000 in
set_option maxRecDepth 100000 in
theorem wX1_readFellow {p : Program} {l : Launch} {e : Env} {R : Room} {s : State} {m : MethodId} {args : Array Value} {below : List Frame} {meth : Method} {c : Code} {Q : State → Prop} {E : Ev} (X : Cx p s m args c cX1_readFellow RX1 E) (hml : c.maxLocals = 3) (hR : 2 ≤ R.frames ∧ 47 ≤ R.locals) {x0 : Nat} {x1 : Nat} {mm : Mem} {mm1 : Mem} (hf : fX1_readFellow (eS E) x0 x1 mm = some mm1) (hret : ∀ (pc : Nat) (H : Heap) (locs : List Loc) (ls : Array Slot), decode cX1_readFellow pc = .ok (.return_, 1) → wS E s mm1 H locs → W p l e R s m args below meth c H locs 0 0 Q (F0 m pc ls [])) : ∀ (H : Heap) (locs : List Loc) (ls : Array Slot), wS E s mm H locs → lv_has ls 3 [(0, .ref x0), (1, .ref x1)] → W p l e R s m args below meth c H locs 0 0 Q (F0 m 0 ls []) := by
  have hx := X.1
  have hb := X.2.1
  unfold fX1_readFellow at hf
  have hj35 : ∀ (x0 : Nat) (mm : Mem) (H : Heap) (locs : List Loc) (ls : Array Slot), fX1_readFellow_j35 (eS E) x0 mm = some mm1 → wS E s mm H locs → lv_has ls 3 [(0, .ref x0)] → W p l e R s m args below meth c H locs 0 0 Q (F0 m 35 ls []) := by
    intro x0 mm H locs ls hf hS hl
    unfold fX1_readFellow_j35 at hf
    refine lv_aload_n hx hb dX1_readFellow_35 rfl (lv_at hl 0 rfl) ?_
    refine lv_dup hx hb dX1_readFellow_36 rfl ?_
    obtain ⟨v1, h1, hf⟩ := bs hf
    refine am_gi X hS fl_X1_31 rfl h1 dX1_readFellow_37 ?_
    refine lv_iconst (v := 1) hx hb dX1_readFellow_40 (by decide) ?_
    refine lv_iadd hx hb dX1_readFellow_41 ?_
    obtain ⟨m2, h1, hf⟩ := bs hf
    refine am_pi X hS fp_X1_31 rfl h1 dX1_readFellow_42 (fun H locs hS => ?_)
    cases hf
    exact hret _ _ _ _ dX1_readFellow_45 hS
  intro H locs ls hS hl
  refine lv_iconst (v := 0) hx hb dX1_readFellow_0 (by decide) ?_
  refine lv_topi (fun x2_3 e1 => ?_)
  have hf := lt1_n e1 hf
  refine lv_istore_n (lv' := [(2, .int x2_3), (0, .ref x0), (1, .ref x1)]) hx hb dX1_readFellow_1 rfl hl (by decide) rfl (fun ls hl => ?_)
  obtain ⟨ex2, hl2, hk2⟩ := bs hf
  refine loop_W (P := fun st => ∀ (H : Heap) (locs : List Loc) (ls : Array Slot), wS E s st.2 H locs → lv_has ls 3 [(0, .ref x0), (1, .ref x1), (2, .int st.1)] → W p l e R s m args below meth c H locs 0 0 Q (F0 m 2 ls [])) (ex := ex2) ?_ FU _ hl2 H locs ls hS (lv_sub hl [1, 2, 0] rfl)
  intro st y2 hf hyL2 hyR2 H locs ls hS hl
  obtain ⟨x2, mm⟩ := st
  have hf : fX1_readFellow_b2 (eS E) x0 x1 x2 mm = some y2 := hf
  have hS : wS E s mm H locs := hS
  have hl : lv_has ls 3 [(0, .ref x0), (1, .ref x1), (2, .int x2)] := hl
  unfold fX1_readFellow_b2 at hf
  refine lv_iload_n hx hb dX1_readFellow_2 rfl (lv_at hl 2 rfl) ?_
  refine lv_bipush (v := 7) hx hb dX1_readFellow_3 (by decide) ?_
  refine lv_icmp_ge (tgt := 35) hx hb dX1_readFellow_5 (by decide) (fun q4 => ?_) (fun q4 => ?_)
  · have hf := ifp hf q4
    obtain rfl : mm = ex2 := hyR2 _ (Option.some.inj hf).symm
    exact hj35 x0 mm H locs ls hk2 hS (lv_sub hl [0] rfl)
  · have hf := ifn hf q4
    refine lv_aload_n hx hb dX1_readFellow_8 rfl (lv_at hl 0 rfl) ?_
    obtain ⟨a5, h1, hf⟩ := bs hf
    refine am_gr X hS fl_X1_9 rfl h1 dX1_readFellow_9 ?_
    refine lv_aload_n hx hb dX1_readFellow_12 rfl (lv_at hl 0 rfl) ?_
    obtain ⟨v6, h1, hf⟩ := bs hf
    refine am_gi X hS fl_X1_31 rfl h1 dX1_readFellow_13 ?_
    refine lv_bipush (v := 7) hx hb dX1_readFellow_16 (by decide) ?_
    refine lv_imul hx hb dX1_readFellow_18 ?_
    refine lv_iload_n hx hb dX1_readFellow_19 rfl (lv_at hl 2 rfl) ?_
    refine lv_iadd hx hb dX1_readFellow_20 ?_
    refine lv_aload_n hx hb dX1_readFellow_21 rfl (lv_at hl 1 rfl) ?_
    refine lv_iconst (v := 0) hx hb dX1_readFellow_22 (by decide) ?_
    refine lv_bipush (v := 40) hx hb dX1_readFellow_23 (by decide) ?_
    obtain ⟨u0, h0, hf⟩ := bs hf
    obtain ⟨_, hrc⟩ := isO_n h0
    obtain ⟨v7, m8, h1, hf⟩ := bs2 hf
    refine am_endi hS (am_runV (As := [.int 0, .int 40]) X (hml.trans hl.1.symm) hS (cX8_number_ok (l := l) (E := E) h1) mv_X1_74 hrc rfl ⟨Nat.le_trans (by decide) hR.1, Nat.le_trans (by decide) hR.2⟩ ⟨Nat.zero_le _, Nat.zero_le _⟩ rfl rfl (Nat.le_of_ble_eq_true rfl) dX1_readFellow_25) (fun H locs hS => ?_)
    obtain ⟨m9, h1, hf⟩ := bs hf
    refine am_ast X hS h1 dX1_readFellow_28 (fun H locs hS => ?_)
    obtain ⟨x2_10, e1⟩ : ∃ z : Int32, z = x2 + 1 := ⟨_, rfl⟩
    have hf := lt1_n e1 hf
    refine lv_iinc (v := x2_10) (lv' := [(2, .int x2_10), (0, .ref x0), (1, .ref x1)]) hx hb dX1_readFellow_29 hl (k := 2) rfl (by rw [e1]; rfl) (by decide) rfl (fun ls hl => ?_)
    refine lv_goto (tgt := 2) hx hb dX1_readFellow_32 (by decide) ?_
    exact hyL2 _ (Option.some.inj hf).symm H locs ls hS (lv_sub hl [1, 2, 0] rfl)
set_option maxRecDepth 100000 in
theorem cX1_readFellow_ok {l : Launch} {E : Ev} {x0 : Nat} {x1 : Nat} {mm : Mem} {mm1 : Mem} (hf : fX1_readFellow (eS E) x0 x1 mm = some mm1) : CtV l yX1_readFellow cX1_readFellow 3 none 2 47 E [.ref x0, .ref x1] mm mm1 := by
  refine Met.ofW (cc := cX1_readFellow) (maxL := 3) (ret := none) (by decide) rfl ?_
  intro p e s m args below meth c s₁ B hml hv
  obtain ⟨rfl, X, hS, hr, hlocks⟩ := am_in B hv
  refine am_entry (Nat.le_of_ble_eq_true rfl) (fun ls hl => ?_)
  exact wX1_readFellow X hml ⟨Nat.le_refl _, Nat.le_refl _⟩ hf (fun pc H locs ls hd hS => am_rv X hS hr hd hlocks) _ _ ls hS hl
set_option maxHeartbeats 4000000 in
set_option maxRecDepth 100000 in
theorem wX4_becomePlain {p : Program} {l : Launch} {e : Env} {R : Room} {s : State} {m : MethodId} {args : Array Value} {below : List Frame} {meth : Method} {c : Code} {Q : State → Prop} {E : Ev} (X : Cx p s m args c cX4_becomePlain RX4 E) (hml : c.maxLocals = 1) (hR : 0 ≤ R.frames ∧ 0 ≤ R.locals) {x0 : Nat} {mm : Mem} {mm1 : Mem} (hf : fX4_becomePlain (eS E) x0 mm = some mm1) (hret : ∀ (pc : Nat) (H : Heap) (locs : List Loc) (ls : Array Slot), decode cX4_becomePlain pc = .ok (.return_, 1) → wS E s mm1 H locs → W p l e R s m args below meth c H locs 0 0 Q (F0 m pc ls [])) : ∀ (H : Heap) (locs : List Loc) (ls : Array Slot), wS E s mm H locs → lv_has ls 1 [(0, .ref x0)] → W p l e R s m args below meth c H locs 0 0 Q (F0 m 0 ls []) := by
  have hx := X.1
  have hb := X.2.1
  unfold fX4_becomePlain at hf
  intro H locs ls hS hl
  refine lv_aload_n hx hb dX4_becomePlain_0 rfl (lv_at hl 0 rfl) ?_
  obtain ⟨a1, h1, hf⟩ := bs hf
  refine am_gr X hS fl_X4_9 rfl h1 dX4_becomePlain_1 ?_
  refine lv_iconst (v := 0) hx hb dX4_becomePlain_4 (by decide) ?_
  refine lv_sipush (v := 1000) hx hb dX4_becomePlain_5 (by decide) ?_
  obtain ⟨m2, h1, hf⟩ := bs hf
  refine am_ast X hS h1 dX4_becomePlain_8 (fun H locs hS => ?_)
  refine lv_aload_n hx hb dX4_becomePlain_9 rfl (lv_at hl 0 rfl) ?_
  obtain ⟨a3, h1, hf⟩ := bs hf
  refine am_gr X hS fl_X4_9 rfl h1 dX4_becomePlain_10 ?_
  refine lv_iconst (v := 1) hx hb dX4_becomePlain_13 (by decide) ?_
  refine lv_iconst (v := 1) hx hb dX4_becomePlain_14 (by decide) ?_
  obtain ⟨m4, h1, hf⟩ := bs hf
  refine am_ast X hS h1 dX4_becomePlain_15 (fun H locs hS => ?_)
  refine lv_aload_n hx hb dX4_becomePlain_16 rfl (lv_at hl 0 rfl) ?_
  obtain ⟨a5, h1, hf⟩ := bs hf
  refine am_gr X hS fl_X4_9 rfl h1 dX4_becomePlain_17 ?_
  refine lv_iconst (v := 2) hx hb dX4_becomePlain_20 (by decide) ?_
  refine lv_sipush (v := 1100) hx hb dX4_becomePlain_21 (by decide) ?_
  obtain ⟨m6, h1, hf⟩ := bs hf
  refine am_ast X hS h1 dX4_becomePlain_24 (fun H locs hS => ?_)
  refine lv_aload_n hx hb dX4_becomePlain_25 rfl (lv_at hl 0 rfl) ?_
  obtain ⟨a7, h1, hf⟩ := bs hf
  refine am_gr X hS fl_X4_9 rfl h1 dX4_becomePlain_26 ?_
  refine lv_iconst (v := 3) hx hb dX4_becomePlain_29 (by decide) ?_
  refine lv_sipush (v := 1002) hx hb dX4_becomePlain_30 (by decide) ?_
  obtain ⟨m8, h1, hf⟩ := bs hf
  refine am_ast X hS h1 dX4_becomePlain_33 (fun H locs hS => ?_)
  refine lv_aload_n hx hb dX4_becomePlain_34 rfl (lv_at hl 0 rfl) ?_
  obtain ⟨a9, h1, hf⟩ := bs hf
  refine am_gr X hS fl_X4_9 rfl h1 dX4_becomePlain_35 ?_
  refine lv_iconst (v := 4) hx hb dX4_becomePlain_38 (by decide) ?_
  refine lv_sipush (v := 1102) hx hb dX4_becomePlain_39 (by decide) ?_
  obtain ⟨m10, h1, hf⟩ := bs hf
  refine am_ast X hS h1 dX4_becomePlain_42 (fun H locs hS => ?_)
  refine lv_aload_n hx hb dX4_becomePlain_43 rfl (lv_at hl 0 rfl) ?_
  refine lv_iconst (v := 5) hx hb dX4_becomePlain_44 (by decide) ?_
  obtain ⟨m11, h1, hf⟩ := bs hf
  refine am_pi X hS fp_X4_21 rfl h1 dX4_becomePlain_45 (fun H locs hS => ?_)
  cases hf
  exact hret _ _ _ _ dX4_becomePlain_48 hS
set_option maxRecDepth 100000 in
theorem cX4_becomePlain_ok {l : Launch} {E : Ev} {x0 : Nat} {mm : Mem} {mm1 : Mem} (hf : fX4_becomePlain (eS E) x0 mm = some mm1) : CtV l yX4_becomePlain cX4_becomePlain 1 none 0 0 E [.ref x0] mm mm1 := by
  refine Met.ofW (cc := cX4_becomePlain) (maxL := 1) (ret := none) (by decide) rfl ?_
  intro p e s m args below meth c s₁ B hml hv
  obtain ⟨rfl, X, hS, hr, hlocks⟩ := am_in B hv
  refine am_entry (Nat.le_of_ble_eq_true rfl) (fun ls hl => ?_)
  exact wX4_becomePlain X hml ⟨Nat.le_refl _, Nat.le_refl _⟩ hf (fun pc H locs ls hd hS => am_rv X hS hr hd hlocks) _ _ ls hS hl
set_option maxHeartbeats 4000000 in
set_option maxRecDepth 100000 in
theorem wX4_copyFrom {p : Program} {l : Launch} {e : Env} {R : Room} {s : State} {m : MethodId} {args : Array Value} {below : List Frame} {meth : Method} {c : Code} {Q : State → Prop} {E : Ev} (X : Cx p s m args c cX4_copyFrom RX4 E) (hml : c.maxLocals = 2) (hR : 1 ≤ R.frames ∧ 60 ≤ R.locals) {x0 : Nat} {x1 : Nat} {mm : Mem} {mm1 : Mem} (hf : fX4_copyFrom (eS E) x0 x1 mm = some mm1) (hret : ∀ (pc : Nat) (H : Heap) (locs : List Loc) (ls : Array Slot), decode cX4_copyFrom pc = .ok (.return_, 1) → wS E s mm1 H locs → W p l e R s m args below meth c H locs 0 0 Q (F0 m pc ls [])) : ∀ (H : Heap) (locs : List Loc) (ls : Array Slot), wS E s mm H locs → lv_has ls 2 [(0, .ref x0), (1, .ref x1)] → W p l e R s m args below meth c H locs 0 0 Q (F0 m 0 ls []) := by
  have hx := X.1
  have hb := X.2.1
  unfold fX4_copyFrom at hf
  intro H locs ls hS hl
  refine lv_aload_n hx hb dX4_copyFrom_0 rfl (lv_at hl 1 rfl) ?_
  obtain ⟨a1, h1, hf⟩ := bs hf
  refine am_gr X hS fl_X4_9 rfl h1 dX4_copyFrom_1 ?_
  refine lv_iconst (v := 0) hx hb dX4_copyFrom_4 (by decide) ?_
  refine lv_aload_n hx hb dX4_copyFrom_5 rfl (lv_at hl 0 rfl) ?_
  obtain ⟨a2, h1, hf⟩ := bs hf
  refine am_gr X hS fl_X4_9 rfl h1 dX4_copyFrom_6 ?_
  refine lv_iconst (v := 0) hx hb dX4_copyFrom_9 (by decide) ?_
  refine lv_aload_n hx hb dX4_copyFrom_10 rfl (lv_at hl 0 rfl) ?_
  obtain ⟨a3, h1, hf⟩ := bs hf
  refine am_gr X hS fl_X4_9 rfl h1 dX4_copyFrom_11 ?_
  obtain ⟨v4, h1, hf⟩ := bs hf
  refine am_len X hS h1 dX4_copyFrom_14 ?_
  obtain ⟨m5, h1, hf⟩ := bs hf
  refine am_cpy X (hml.trans hl.1.symm) hS h1 (inBi 803 (by decide +kernel)) (inBi 520 (by decide +kernel)) (inBi 519 (by decide +kernel)) (inBi 117 (by decide +kernel)) (Nat.le_trans (by decide) hR.1) (Nat.le_trans (by decide) hR.2) dX4_copyFrom_15 (fun H locs hS => ?_)
  refine lv_aload_n hx hb dX4_copyFrom_18 rfl (lv_at hl 0 rfl) ?_
  refine lv_aload_n hx hb dX4_copyFrom_19 rfl (lv_at hl 1 rfl) ?_
  obtain ⟨v6, h1, hf⟩ := bs hf
  refine am_gi X hS fl_X4_21 rfl h1 dX4_copyFrom_20 ?_
  obtain ⟨m7, h1, hf⟩ := bs hf
  refine am_pi X hS fp_X4_21 rfl h1 dX4_copyFrom_23 (fun H locs hS => ?_)
  cases hf
  exact hret _ _ _ _ dX4_copyFrom_26 hS
set_option maxRecDepth 100000 in
theorem cX4_copyFrom_ok {l : Launch} {E : Ev} {x0 : Nat} {x1 : Nat} {mm : Mem} {mm1 : Mem} (hf : fX4_copyFrom (eS E) x0 x1 mm = some mm1) : CtV l yX4_copyFrom cX4_copyFrom 2 none 1 60 E [.ref x0, .ref x1] mm mm1 := by
  refine Met.ofW (cc := cX4_copyFrom) (maxL := 2) (ret := none) (by decide) rfl ?_
  intro p e s m args below meth c s₁ B hml hv
  obtain ⟨rfl, X, hS, hr, hlocks⟩ := am_in B hv
  refine am_entry (Nat.le_of_ble_eq_true rfl) (fun ls hl => ?_)
  exact wX4_copyFrom X hml ⟨Nat.le_refl _, Nat.le_refl _⟩ hf (fun pc H locs ls hd hS => am_rv X hS hr hd hlocks) _ _ ls hS hl
set_option maxHeartbeats 4000000 in
set_option maxRecDepth 100000 in
theorem wX8_seesDigit {p : Program} {l : Launch} {e : Env} {R : Room} {s : State} {m : MethodId} {args : Array Value} {below : List Frame} {meth : Method} {c : Code} {Q : State → Prop} {E : Ev} (X : Cx p s m args c cX8_seesDigit RX8 E) (hml : c.maxLocals = 1) (hR : 1 ≤ R.frames ∧ 20 ≤ R.locals) {x0 : Nat} {mm : Mem} {r : Int32} {mm1 : Mem} (hf : fX8_seesDigit (eS E) x0 mm = some (r, mm1)) (hret : ∀ (pc : Nat) (H : Heap) (locs : List Loc) (ls : Array Slot), narrow .boolean (.int r) = .int r → decode cX8_seesDigit pc = .ok (.ireturn, 1) → wS E s mm1 H locs → W p l e R s m args below meth c H locs 0 0 Q (F0 m pc ls [.int r])) : ∀ (H : Heap) (locs : List Loc) (ls : Array Slot), wS E s mm H locs → lv_has ls 1 [(0, .ref x0)] → W p l e R s m args below meth c H locs 0 0 Q (F0 m 0 ls []) := by
  have hx := X.1
  have hb := X.2.1
  unfold fX8_seesDigit at hf
  have hj31 : ∀ (s0 : Int32) (mm : Mem) (H : Heap) (locs : List Loc) (ls : Array Slot), fX8_seesDigit_j31 (eS E) s0 mm = some (r, mm1) → wS E s mm H locs → lv_has ls 1 [] → W p l e R s m args below meth c H locs 0 0 Q (F0 m 31 ls [.int s0]) := by
    intro s0 mm H locs ls hf hS hl
    unfold fX8_seesDigit_j31 at hf
    obtain ⟨v1, h1, hf⟩ := bs hf
    obtain ⟨rfl, h2⟩ := ckZ_n h1
    cases hf
    exact hret _ _ _ _ h2 dX8_seesDigit_31 hS
  have hj30 : ∀ (mm : Mem) (H : Heap) (locs : List Loc) (ls : Array Slot), fX8_seesDigit_j30 (eS E) mm = some (r, mm1) → wS E s mm H locs → lv_has ls 1 [] → W p l e R s m args below meth c H locs 0 0 Q (F0 m 30 ls []) := by
    intro mm H locs ls hf hS hl
    unfold fX8_seesDigit_j30 at hf
    refine lv_iconst (v := 0) hx hb dX8_seesDigit_30 (by decide) ?_
    exact hj31 0 mm H locs ls hf hS hl
  intro H locs ls hS hl
  refine lv_aload_n hx hb dX8_seesDigit_0 rfl (lv_at hl 0 rfl) ?_
  obtain ⟨u0, h0, hf⟩ := bs hf
  obtain ⟨_, hrc⟩ := isO_n h0
  obtain ⟨v2, m3, h1, hf⟩ := bs2 hf
  refine am_endi hS (am_runV (As := []) X (hml.trans hl.1.symm) hS (cX8_next_ok (l := l) (E := E) h1) mv_X8_31 hrc rfl ⟨Nat.le_trans (by decide) hR.1, Nat.le_trans (by decide) hR.2⟩ ⟨Nat.zero_le _, Nat.zero_le _⟩ rfl rfl (Nat.le_of_ble_eq_true rfl) dX8_seesDigit_1) (fun H locs hS => ?_)
  refine lv_aload_n hx hb dX8_seesDigit_4 rfl (lv_at hl 0 rfl) ?_
  obtain ⟨v4, h1, hf⟩ := bs hf
  refine am_gi X hS fl_X8_22 rfl h1 dX8_seesDigit_5 ?_
  refine lv_icmp_ge (tgt := 30) hx hb dX8_seesDigit_8 (by decide) (fun q5 => ?_) (fun q5 => ?_)
  · have hf := ifp hf q5
    exact hj30 m3 H locs ls hf hS (lv_sub hl [] rfl)
  · have hf := ifn hf q5
    refine lv_aload_n hx hb dX8_seesDigit_11 rfl (lv_at hl 0 rfl) ?_
    obtain ⟨a6, h1, hf⟩ := bs hf
    refine am_gr X hS fl_X8_9 rfl h1 dX8_seesDigit_12 ?_
    refine lv_aload_n hx hb dX8_seesDigit_15 rfl (lv_at hl 0 rfl) ?_
    obtain ⟨v7, h1, hf⟩ := bs hf
    refine am_gi X hS fl_X8_25 rfl h1 dX8_seesDigit_16 ?_
    obtain ⟨v8, h1, hf⟩ := bs hf
    refine am_ald X hS h1 dX8_seesDigit_19 ?_
    obtain ⟨v9, h1, hf⟩ := bs hf
    refine am_endi hS (am_runS (As := [.int v8]) X (hml.trans hl.1.symm) hS (cX8_isDigit_ok (l := l) (E := E) h1) ms_X8_35 ⟨Nat.le_trans (by decide) hR.1, Nat.le_trans (by decide) hR.2⟩ ⟨Nat.zero_le _, Nat.zero_le _⟩ rfl rfl (Nat.le_of_ble_eq_true rfl) dX8_seesDigit_20) (fun H locs hS => ?_)
    refine lv_if_eq (tgt := 30) hx hb dX8_seesDigit_23 (by decide) (fun q10 => ?_) (fun q10 => ?_)
    · have hf := ifp hf q10
      exact hj30 m3 H locs ls hf hS (lv_sub hl [] rfl)
    · have hf := ifn hf q10
      refine lv_iconst (v := 1) hx hb dX8_seesDigit_26 (by decide) ?_
      refine lv_goto (tgt := 31) hx hb dX8_seesDigit_27 (by decide) ?_
      exact hj31 1 m3 H locs ls hf hS (lv_sub hl [] rfl)
set_option maxRecDepth 100000 in
theorem cX8_seesDigit_ok {l : Launch} {E : Ev} {x0 : Nat} {mm : Mem} {r : Int32} {mm1 : Mem} (hf : fX8_seesDigit (eS E) x0 mm = some (r, mm1)) : CtI l yX8_seesDigit cX8_seesDigit 1 (some .boolean) 1 20 E [.ref x0] mm r mm1 := by
  refine Met.ofW (cc := cX8_seesDigit) (maxL := 1) (ret := (some .boolean)) (by decide) rfl ?_
  intro p e s m args below meth c s₁ B hml hv
  obtain ⟨rfl, X, hS, hr, hlocks⟩ := am_in B hv
  refine am_entry (Nat.le_of_ble_eq_true rfl) (fun ls hl => ?_)
  exact wX8_seesDigit X hml ⟨Nat.le_refl _, Nat.le_refl _⟩ hf (fun pc H locs ls hn hd hS => am_ri X hS hr hn hd hlocks) _ _ ls hS hl
set_option maxHeartbeats 4000000 in
set_option maxRecDepth 100000 in
theorem wX4_lay {p : Program} {l : Launch} {e : Env} {R : Room} {s : State} {m : MethodId} {args : Array Value} {below : List Frame} {meth : Method} {c : Code} {Q : State → Prop} {E : Ev} (X : Cx p s m args c cX4_lay RX4 E) (hml : c.maxLocals = 2) (hR : 0 ≤ R.frames ∧ 0 ≤ R.locals) {x0 : Nat} {x1 : Int32} {mm : Mem} {r : Int32} {mm1 : Mem} (hf : fX4_lay (eS E) x0 x1 mm = some (r, mm1)) (hret : ∀ (pc : Nat) (H : Heap) (locs : List Loc) (ls : Array Slot), narrow .boolean (.int r) = .int r → decode cX4_lay pc = .ok (.ireturn, 1) → wS E s mm1 H locs → W p l e R s m args below meth c H locs 0 0 Q (F0 m pc ls [.int r])) : ∀ (H : Heap) (locs : List Loc) (ls : Array Slot), wS E s mm H locs → lv_has ls 2 [(0, .ref x0), (1, .int x1)] → W p l e R s m args below meth c H locs 0 0 Q (F0 m 0 ls []) := by
  have hx := X.1
  have hb := X.2.1
  unfold fX4_lay at hf
  intro H locs ls hS hl
  refine lv_aload_n hx hb dX4_lay_0 rfl (lv_at hl 0 rfl) ?_
  obtain ⟨v1, h1, hf⟩ := bs hf
  refine am_gi X hS fl_X4_21 rfl h1 dX4_lay_1 ?_
  refine lv_aload_n hx hb dX4_lay_4 rfl (lv_at hl 0 rfl) ?_
  obtain ⟨a2, h1, hf⟩ := bs hf
  refine am_gr X hS fl_X4_9 rfl h1 dX4_lay_5 ?_
  obtain ⟨v3, h1, hf⟩ := bs hf
  refine am_len X hS h1 dX4_lay_8 ?_
  refine lv_icmp_lt (tgt := 14) hx hb dX4_lay_9 (by decide) (fun q4 => ?_) (fun q4 => ?_)
  · have hf := ifp hf q4
    refine lv_aload_n hx hb dX4_lay_14 rfl (lv_at hl 0 rfl) ?_
    obtain ⟨a5, h1, hf⟩ := bs hf
    refine am_gr X hS fl_X4_9 rfl h1 dX4_lay_15 ?_
    refine lv_aload_n hx hb dX4_lay_18 rfl (lv_at hl 0 rfl) ?_
    obtain ⟨v6, h1, hf⟩ := bs hf
    refine am_gi X hS fl_X4_21 rfl h1 dX4_lay_19 ?_
    refine lv_iload_n hx hb dX4_lay_22 rfl (lv_at hl 1 rfl) ?_
    obtain ⟨m7, h1, hf⟩ := bs hf
    refine am_ast X hS h1 dX4_lay_23 (fun H locs hS => ?_)
    refine lv_aload_n hx hb dX4_lay_24 rfl (lv_at hl 0 rfl) ?_
    refine lv_dup hx hb dX4_lay_25 rfl ?_
    obtain ⟨v8, h1, hf⟩ := bs hf
    refine am_gi X hS fl_X4_21 rfl h1 dX4_lay_26 ?_
    refine lv_iconst (v := 1) hx hb dX4_lay_29 (by decide) ?_
    refine lv_iadd hx hb dX4_lay_30 ?_
    obtain ⟨m9, h1, hf⟩ := bs hf
    refine am_pi X hS fp_X4_21 rfl h1 dX4_lay_31 (fun H locs hS => ?_)
    refine lv_iconst (v := 1) hx hb dX4_lay_34 (by decide) ?_
    cases hf
    exact hret _ _ _ _ rfl dX4_lay_35 hS
  · have hf := ifn hf q4
    refine lv_iconst (v := 0) hx hb dX4_lay_12 (by decide) ?_
    cases hf
    exact hret _ _ _ _ rfl dX4_lay_13 hS
set_option maxRecDepth 100000 in
theorem cX4_lay_ok {l : Launch} {E : Ev} {x0 : Nat} {x1 : Int32} {mm : Mem} {r : Int32} {mm1 : Mem} (hf : fX4_lay (eS E) x0 x1 mm = some (r, mm1)) : CtI l yX4_lay cX4_lay 2 (some .boolean) 0 0 E [.ref x0, .int x1] mm r mm1 := by
  refine Met.ofW (cc := cX4_lay) (maxL := 2) (ret := (some .boolean)) (by decide) rfl ?_
  intro p e s m args below meth c s₁ B hml hv
  obtain ⟨rfl, X, hS, hr, hlocks⟩ := am_in B hv
  refine am_entry (Nat.le_of_ble_eq_true rfl) (fun ls hl => ?_)
  exact wX4_lay X hml ⟨Nat.le_refl _, Nat.le_refl _⟩ hf (fun pc H locs ls hn hd hS => am_ri X hS hr hn hd hlocks) _ _ ls hS hl
set_option maxHeartbeats 4000000 in
set_option maxRecDepth 100000 in
theorem wX4_joined {p : Program} {l : Launch} {e : Env} {R : Room} {s : State} {m : MethodId} {args : Array Value} {below : List Frame} {meth : Method} {c : Code} {Q : State → Prop} {E : Ev} (X : Cx p s m args c cX4_joined RX4 E) (hml : c.maxLocals = 3) (hR : 0 ≤ R.frames ∧ 0 ≤ R.locals) {x0 : Int32} {x1 : Int32} {x2 : Int32} {mm : Mem} {r : Int32} (hf : fX4_joined x0 x1 x2 = some r) (hret : ∀ (pc : Nat) (H : Heap) (locs : List Loc) (ls : Array Slot), narrow .int (.int r) = .int r → decode cX4_joined pc = .ok (.ireturn, 1) → wS E s mm H locs → W p l e R s m args below meth c H locs 0 0 Q (F0 m pc ls [.int r])) : ∀ (H : Heap) (locs : List Loc) (ls : Array Slot), wS E s mm H locs → lv_has ls 3 [(0, .int x0), (1, .int x1), (2, .int x2)] → W p l e R s m args below meth c H locs 0 0 Q (F0 m 0 ls []) := by
  have hx := X.1
  have hb := X.2.1
  unfold fX4_joined at hf
  have hj63 : ∀ (s0 : Int32) (H : Heap) (locs : List Loc) (ls : Array Slot), fX4_joined_j63 s0 = some r → wS E s mm H locs → lv_has ls 3 [] → W p l e R s m args below meth c H locs 0 0 Q (F0 m 63 ls [.int s0]) := by
    intro s0 H locs ls hf hS hl
    unfold fX4_joined_j63 at hf
    cases hf
    exact hret _ _ _ _ rfl dX4_joined_63 hS
  have hj75 : ∀ (s0 : Int32) (H : Heap) (locs : List Loc) (ls : Array Slot), fX4_joined_j75 s0 = some r → wS E s mm H locs → lv_has ls 3 [] → W p l e R s m args below meth c H locs 0 0 Q (F0 m 75 ls [.int s0]) := by
    intro s0 H locs ls hf hS hl
    unfold fX4_joined_j75 at hf
    cases hf
    exact hret _ _ _ _ rfl dX4_joined_75 hS
  have hj86 : ∀ (s0 : Int32) (H : Heap) (locs : List Loc) (ls : Array Slot), fX4_joined_j86 s0 = some r → wS E s mm H locs → lv_has ls 3 [] → W p l e R s m args below meth c H locs 0 0 Q (F0 m 86 ls [.int s0]) := by
    intro s0 H locs ls hf hS hl
    unfold fX4_joined_j86 at hf
    cases hf
    exact hret _ _ _ _ rfl dX4_joined_86 hS
  have hj97 : ∀ (s0 : Int32) (H : Heap) (locs : List Loc) (ls : Array Slot), fX4_joined_j97 s0 = some r → wS E s mm H locs → lv_has ls 3 [] → W p l e R s m args below meth c H locs 0 0 Q (F0 m 97 ls [.int s0]) := by
    intro s0 H locs ls hf hS hl
    unfold fX4_joined_j97 at hf
    cases hf
    exact hret _ _ _ _ rfl dX4_joined_97 hS
  intro H locs ls hS hl
  refine lv_iload_n hx hb dX4_joined_0 rfl (lv_at hl 0 rfl) ?_
  by_cases q1 : x0 = 1100
  · have hf := ifp hf q1
    refine lv_tableIn (off := 39) (tgt := 40) hx hb dX4_joined_1 (by rw [q1]; decide) (by rw [q1]; decide) (by rw [q1]; decide) (by decide) ?_
    refine lv_iload_n hx hb dX4_joined_40 rfl (lv_at hl 1 rfl) ?_
    refine lv_iload_n hx hb dX4_joined_41 rfl (lv_at hl 2 rfl) ?_
    refine lv_iadd hx hb dX4_joined_42 ?_
    cases hf
    exact hret _ _ _ _ rfl dX4_joined_43 hS
  · have hf := ifn hf q1
    by_cases q2 : x0 = 1101
    · have hf := ifp hf q2
      refine lv_tableIn (off := 43) (tgt := 44) hx hb dX4_joined_1 (by rw [q2]; decide) (by rw [q2]; decide) (by rw [q2]; decide) (by decide) ?_
      refine lv_iload_n hx hb dX4_joined_44 rfl (lv_at hl 1 rfl) ?_
      refine lv_iload_n hx hb dX4_joined_45 rfl (lv_at hl 2 rfl) ?_
      refine lv_isub hx hb dX4_joined_46 ?_
      cases hf
      exact hret _ _ _ _ rfl dX4_joined_47 hS
    · have hf := ifn hf q2
      by_cases q3 : x0 = 1102
      · have hf := ifp hf q3
        refine lv_tableIn (off := 47) (tgt := 48) hx hb dX4_joined_1 (by rw [q3]; decide) (by rw [q3]; decide) (by rw [q3]; decide) (by decide) ?_
        refine lv_iload_n hx hb dX4_joined_48 rfl (lv_at hl 1 rfl) ?_
        refine lv_iload_n hx hb dX4_joined_49 rfl (lv_at hl 2 rfl) ?_
        refine lv_imul hx hb dX4_joined_50 ?_
        cases hf
        exact hret _ _ _ _ rfl dX4_joined_51 hS
      · have hf := ifn hf q3
        by_cases q6 : x0 = 1103
        · have hf := ifp hf q6
          refine lv_tableIn (off := 51) (tgt := 52) hx hb dX4_joined_1 (by rw [q6]; decide) (by rw [q6]; decide) (by rw [q6]; decide) (by decide) ?_
          refine lv_iload_n hx hb dX4_joined_52 rfl (lv_at hl 2 rfl) ?_
          refine lv_if_ne (tgt := 60) hx hb dX4_joined_53 (by decide) (fun q4 => ?_) (fun q4 => ?_)
          · have hf := ifn hf q4
            refine lv_iload_n hx hb dX4_joined_60 rfl (lv_at hl 1 rfl) ?_
            refine lv_iload_n hx hb dX4_joined_61 rfl (lv_at hl 2 rfl) ?_
            obtain ⟨v5, h1, hf⟩ := bs hf
            obtain ⟨h1, h2⟩ := dvI_n h1
            refine lv_idiv hx hb dX4_joined_62 h1 ?_
            rw [h2]
            exact hj63 v5 H locs ls hf hS (lv_sub hl [] rfl)
          · have hf := ifp hf q4
            refine lv_iconst (v := 0) hx hb dX4_joined_56 (by decide) ?_
            refine lv_goto (tgt := 63) hx hb dX4_joined_57 (by decide) ?_
            exact hj63 0 H locs ls hf hS (lv_sub hl [] rfl)
        · have hf := ifn hf q6
          by_cases q9 : x0 = 1104
          · have hf := ifp hf q9
            refine lv_tableIn (off := 63) (tgt := 64) hx hb dX4_joined_1 (by rw [q9]; decide) (by rw [q9]; decide) (by rw [q9]; decide) (by decide) ?_
            refine lv_iload_n hx hb dX4_joined_64 rfl (lv_at hl 2 rfl) ?_
            refine lv_if_ne (tgt := 72) hx hb dX4_joined_65 (by decide) (fun q7 => ?_) (fun q7 => ?_)
            · have hf := ifn hf q7
              refine lv_iload_n hx hb dX4_joined_72 rfl (lv_at hl 1 rfl) ?_
              refine lv_iload_n hx hb dX4_joined_73 rfl (lv_at hl 2 rfl) ?_
              obtain ⟨v8, h1, hf⟩ := bs hf
              obtain ⟨h1, h2⟩ := rmI_n h1
              refine lv_irem hx hb dX4_joined_74 h1 ?_
              rw [h2]
              exact hj75 v8 H locs ls hf hS (lv_sub hl [] rfl)
            · have hf := ifp hf q7
              refine lv_iconst (v := 0) hx hb dX4_joined_68 (by decide) ?_
              refine lv_goto (tgt := 75) hx hb dX4_joined_69 (by decide) ?_
              exact hj75 0 H locs ls hf hS (lv_sub hl [] rfl)
          · have hf := ifn hf q9
            by_cases q11 : x0 = 1105
            · have hf := ifp hf q11
              refine lv_tableIn (off := 75) (tgt := 76) hx hb dX4_joined_1 (by rw [q11]; decide) (by rw [q11]; decide) (by rw [q11]; decide) (by decide) ?_
              refine lv_iload_n hx hb dX4_joined_76 rfl (lv_at hl 1 rfl) ?_
              refine lv_iload_n hx hb dX4_joined_77 rfl (lv_at hl 2 rfl) ?_
              refine lv_icmp_ge (tgt := 85) hx hb dX4_joined_78 (by decide) (fun q10 => ?_) (fun q10 => ?_)
              · have hf := ifp hf q10
                refine lv_iload_n hx hb dX4_joined_85 rfl (lv_at hl 2 rfl) ?_
                exact hj86 x2 H locs ls hf hS (lv_sub hl [] rfl)
              · have hf := ifn hf q10
                refine lv_iload_n hx hb dX4_joined_81 rfl (lv_at hl 1 rfl) ?_
                refine lv_goto (tgt := 86) hx hb dX4_joined_82 (by decide) ?_
                exact hj86 x1 H locs ls hf hS (lv_sub hl [] rfl)
            · have hf := ifn hf q11
              refine lv_tableOut (tgt := 87) hx hb dX4_joined_1 (ts_out (x := x0) (lo := 1100) (n := 6) (by decide) (by decide) (fun j hj => match j, hj with | 0, _ => fun h => q1 (h.trans (by decide))  | 1, _ => fun h => q2 (h.trans (by decide))  | 2, _ => fun h => q3 (h.trans (by decide))  | 3, _ => fun h => q6 (h.trans (by decide))  | 4, _ => fun h => q9 (h.trans (by decide))  | 5, _ => fun h => q11 (h.trans (by decide)) | j + 6, hj => absurd hj (by omega))) (by decide) ?_
              refine lv_iload_n hx hb dX4_joined_87 rfl (lv_at hl 1 rfl) ?_
              refine lv_iload_n hx hb dX4_joined_88 rfl (lv_at hl 2 rfl) ?_
              refine lv_icmp_le (tgt := 96) hx hb dX4_joined_89 (by decide) (fun q12 => ?_) (fun q12 => ?_)
              · have hf := ifp hf q12
                refine lv_iload_n hx hb dX4_joined_96 rfl (lv_at hl 2 rfl) ?_
                exact hj97 x2 H locs ls hf hS (lv_sub hl [] rfl)
              · have hf := ifn hf q12
                refine lv_iload_n hx hb dX4_joined_92 rfl (lv_at hl 1 rfl) ?_
                refine lv_goto (tgt := 97) hx hb dX4_joined_93 (by decide) ?_
                exact hj97 x1 H locs ls hf hS (lv_sub hl [] rfl)
set_option maxRecDepth 100000 in
theorem cX4_joined_ok {l : Launch} {E : Ev} {x0 : Int32} {x1 : Int32} {x2 : Int32} {mm : Mem} {r : Int32} (hf : fX4_joined x0 x1 x2 = some r) : CtI l yX4_joined cX4_joined 3 (some .int) 0 0 E [.int x0, .int x1, .int x2] mm r mm := by
  refine Met.ofW (cc := cX4_joined) (maxL := 3) (ret := (some .int)) (by decide) rfl ?_
  intro p e s m args below meth c s₁ B hml hv
  obtain ⟨rfl, X, hS, hr, hlocks⟩ := am_in B hv
  refine am_entry (Nat.le_of_ble_eq_true rfl) (fun ls hl => ?_)
  exact wX4_joined X hml ⟨Nat.le_refl _, Nat.le_refl _⟩ hf (fun pc H locs ls hn hd hS => am_ri X hS hr hn hd hlocks) _ _ ls hS hl
set_option maxHeartbeats 4000000 in
set_option maxRecDepth 100000 in
theorem wX4_valueFor {p : Program} {l : Launch} {e : Env} {R : Room} {s : State} {m : MethodId} {args : Array Value} {below : List Frame} {meth : Method} {c : Code} {Q : State → Prop} {E : Ev} (X : Cx p s m args c cX4_valueFor RX4 E) (hml : c.maxLocals = 5) (hR : 1 ≤ R.frames ∧ 22 ≤ R.locals) {x0 : Nat} {x1 : Nat} {mm : Mem} {r : Int32} {mm1 : Mem} (hf : fX4_valueFor (eS E) x0 x1 mm = some (r, mm1)) (hret : ∀ (pc : Nat) (H : Heap) (locs : List Loc) (ls : Array Slot), narrow .int (.int r) = .int r → decode cX4_valueFor pc = .ok (.ireturn, 1) → wS E s mm1 H locs → W p l e R s m args below meth c H locs 0 0 Q (F0 m pc ls [.int r])) : ∀ (H : Heap) (locs : List Loc) (ls : Array Slot), wS E s mm H locs → lv_has ls 5 [(0, .ref x0), (1, .ref x1)] → W p l e R s m args below meth c H locs 0 0 Q (F0 m 0 ls []) := by
  have hx := X.1
  have hb := X.2.1
  unfold fX4_valueFor at hf
  have hj115 : ∀ (x0 : Nat) (mm : Mem) (H : Heap) (locs : List Loc) (ls : Array Slot), fX4_valueFor_j115 (eS E) x0 mm = some (r, mm1) → wS E s mm H locs → lv_has ls 5 [(0, .ref x0)] → W p l e R s m args below meth c H locs 0 0 Q (F0 m 115 ls []) := by
    intro x0 mm H locs ls hf hS hl
    unfold fX4_valueFor_j115 at hf
    refine lv_aload_n hx hb dX4_valueFor_115 rfl (lv_at hl 0 rfl) ?_
    obtain ⟨a1, h1, hf⟩ := bs hf
    refine am_gr X hS fl_X4_15 rfl h1 dX4_valueFor_116 ?_
    refine lv_iconst (v := 0) hx hb dX4_valueFor_119 (by decide) ?_
    obtain ⟨v2, h1, hf⟩ := bs hf
    refine am_ald X hS h1 dX4_valueFor_120 ?_
    cases hf
    exact hret _ _ _ _ rfl dX4_valueFor_121 hS
  have hj37 : ∀ (mm : Mem) (H : Heap) (locs : List Loc) (ls : Array Slot), fX4_valueFor_j37 (eS E) mm = some (r, mm1) → wS E s mm H locs → lv_has ls 5 [] → W p l e R s m args below meth c H locs 0 0 Q (F0 m 37 ls []) := by
    intro mm H locs ls hf hS hl
    unfold fX4_valueFor_j37 at hf
    refine lv_iconst (v := 0) hx hb dX4_valueFor_37 (by decide) ?_
    cases hf
    exact hret _ _ _ _ rfl dX4_valueFor_38 hS
  have hj77 : ∀ (mm : Mem) (H : Heap) (locs : List Loc) (ls : Array Slot), fX4_valueFor_j77 (eS E) mm = some (r, mm1) → wS E s mm H locs → lv_has ls 5 [] → W p l e R s m args below meth c H locs 0 0 Q (F0 m 77 ls []) := by
    intro mm H locs ls hf hS hl
    unfold fX4_valueFor_j77 at hf
    refine lv_iconst (v := 0) hx hb dX4_valueFor_77 (by decide) ?_
    cases hf
    exact hret _ _ _ _ rfl dX4_valueFor_78 hS
  intro H locs ls hS hl
  refine lv_iconst (v := 0) hx hb dX4_valueFor_0 (by decide) ?_
  refine lv_topi (fun x2_3 e1 => ?_)
  have hf := lt1_n e1 hf
  refine lv_istore_n (lv' := [(2, .int x2_3), (0, .ref x0), (1, .ref x1)]) hx hb dX4_valueFor_1 rfl hl (by decide) rfl (fun ls hl => ?_)
  refine lv_iconst (v := 0) hx hb dX4_valueFor_2 (by decide) ?_
  refine lv_topi (fun x3_4 e1 => ?_)
  have hf := lt1_n e1 hf
  refine lv_istore_n (lv' := [(3, .int x3_4), (2, .int x2_3), (0, .ref x0), (1, .ref x1)]) hx hb dX4_valueFor_3 rfl hl (by decide) rfl (fun ls hl => ?_)
  obtain ⟨ex4, hl4, hk4⟩ := bs hf
  refine loop_W (P := fun st => ∀ (H : Heap) (locs : List Loc) (ls : Array Slot), wS E s st.2.2 H locs → lv_has ls 5 [(0, .ref x0), (1, .ref x1), (2, .int st.1), (3, .int st.2.1)] → W p l e R s m args below meth c H locs 0 0 Q (F0 m 4 ls [])) (ex := ex4) ?_ FU _ hl4 H locs ls hS (lv_sub hl [2, 3, 1, 0] rfl)
  intro st y4 hf hyL4 hyR4 H locs ls hS hl
  obtain ⟨x2, x3, mm⟩ := st
  have hf : fX4_valueFor_b4 (eS E) x0 x1 x2 x3 mm = some y4 := hf
  have hS : wS E s mm H locs := hS
  have hl : lv_has ls 5 [(0, .ref x0), (1, .ref x1), (2, .int x2), (3, .int x3)] := hl
  unfold fX4_valueFor_b4 at hf
  have hj109 : ∀ (x2 : Int32) (x3 : Int32) (mm : Mem) (H : Heap) (locs : List Loc) (ls : Array Slot), fX4_valueFor_j109 (eS E) x0 x1 x2 x3 mm = some y4 → wS E s mm H locs → lv_has ls 5 [(0, .ref x0), (1, .ref x1), (2, .int x2), (3, .int x3)] → W p l e R s m args below meth c H locs 0 0 Q (F0 m 109 ls []) := by
    intro x2 x3 mm H locs ls hf hS hl
    unfold fX4_valueFor_j109 at hf
    obtain ⟨x3_5, e1⟩ : ∃ z : Int32, z = x3 + 1 := ⟨_, rfl⟩
    have hf := lt1_n e1 hf
    refine lv_iinc (v := x3_5) (lv' := [(3, .int x3_5), (0, .ref x0), (1, .ref x1), (2, .int x2)]) hx hb dX4_valueFor_109 hl (k := 3) rfl (by rw [e1]; rfl) (by decide) rfl (fun ls hl => ?_)
    refine lv_goto (tgt := 4) hx hb dX4_valueFor_112 (by decide) ?_
    exact hyL4 _ (Option.some.inj hf).symm H locs ls hS (lv_sub hl [1, 2, 3, 0] rfl)
  have hj65 : ∀ (x2 : Int32) (x3 : Int32) (s0 : Nat) (s1 : Int32) (s2 : Int32) (mm : Mem) (H : Heap) (locs : List Loc) (ls : Array Slot), fX4_valueFor_j65 (eS E) x0 x1 x2 x3 s0 s1 s2 mm = some y4 → wS E s mm H locs → lv_has ls 5 [(0, .ref x0), (1, .ref x1), (2, .int x2), (3, .int x3)] → W p l e R s m args below meth c H locs 0 0 Q (F0 m 65 ls [.int s2, .int s1, .ref s0]) := by
    intro x2 x3 s0 s1 s2 mm H locs ls hf hS hl
    unfold fX4_valueFor_j65 at hf
    obtain ⟨m6, h1, hf⟩ := bs hf
    refine am_ast X hS h1 dX4_valueFor_65 (fun H locs hS => ?_)
    obtain ⟨x2_7, e1⟩ : ∃ z : Int32, z = x2 + 1 := ⟨_, rfl⟩
    have hf := lt1_n e1 hf
    refine lv_iinc (v := x2_7) (lv' := [(2, .int x2_7), (0, .ref x0), (1, .ref x1), (3, .int x3)]) hx hb dX4_valueFor_66 hl (k := 2) rfl (by rw [e1]; rfl) (by decide) rfl (fun ls hl => ?_)
    refine lv_goto (tgt := 109) hx hb dX4_valueFor_69 (by decide) ?_
    exact hj109 x2_7 x3 m6 H locs ls hf hS (lv_sub hl [1, 2, 0, 3] rfl)
  refine lv_iload_n hx hb dX4_valueFor_4 rfl (lv_at hl 3 rfl) ?_
  refine lv_aload_n hx hb dX4_valueFor_5 rfl (lv_at hl 0 rfl) ?_
  obtain ⟨v8, h1, hf⟩ := bs hf
  refine am_gi X hS fl_X4_21 rfl h1 dX4_valueFor_6 ?_
  refine lv_icmp_ge (tgt := 115) hx hb dX4_valueFor_9 (by decide) (fun q9 => ?_) (fun q9 => ?_)
  · have hf := ifp hf q9
    obtain rfl : Sum.inr (Sum.inr (mm)) = ex4 := hyR4 _ (Option.some.inj hf).symm
    exact hj115 x0 mm H locs ls hk4 hS (lv_sub hl [0] rfl)
  · have hf := ifn hf q9
    refine lv_aload_n hx hb dX4_valueFor_12 rfl (lv_at hl 0 rfl) ?_
    obtain ⟨a10, h1, hf⟩ := bs hf
    refine am_gr X hS fl_X4_9 rfl h1 dX4_valueFor_13 ?_
    refine lv_iload_n hx hb dX4_valueFor_16 rfl (lv_at hl 3 rfl) ?_
    obtain ⟨v11, h1, hf⟩ := bs hf
    refine am_ald X hS h1 dX4_valueFor_17 ?_
    refine lv_topi (fun x4_12 e1 => ?_)
    have hf := lt1_n e1 hf
    refine lv_istore (lv' := [(4, .int x4_12), (0, .ref x0), (1, .ref x1), (2, .int x2), (3, .int x3)]) hx hb dX4_valueFor_18 hl (by decide) rfl (fun ls hl => ?_)
    refine lv_iload hx hb dX4_valueFor_20 (lv_at hl 0 rfl) ?_
    refine lv_sipush (v := 1100) hx hb dX4_valueFor_22 (by decide) ?_
    refine lv_icmp_ge (tgt := 72) hx hb dX4_valueFor_25 (by decide) (fun q13 => ?_) (fun q13 => ?_)
    · have hf := ifp hf q13
      refine lv_iload_n hx hb dX4_valueFor_72 rfl (lv_at hl 3 rfl) ?_
      refine lv_iconst (v := 2) hx hb dX4_valueFor_73 (by decide) ?_
      refine lv_icmp_ge (tgt := 79) hx hb dX4_valueFor_74 (by decide) (fun q14 => ?_) (fun q14 => ?_)
      · have hf := ifp hf q14
        obtain ⟨x2_15, e1⟩ : ∃ z : Int32, z = x2 + (-1) := ⟨_, rfl⟩
        have hf := lt1_n e1 hf
        refine lv_iinc (v := x2_15) (lv' := [(2, .int x2_15), (4, .int x4_12), (0, .ref x0), (1, .ref x1), (3, .int x3)]) hx hb dX4_valueFor_79 hl (k := 3) rfl (by rw [e1]; rfl) (by decide) rfl (fun ls hl => ?_)
        refine lv_aload_n hx hb dX4_valueFor_82 rfl (lv_at hl 2 rfl) ?_
        obtain ⟨a16, h1, hf⟩ := bs hf
        refine am_gr X hS fl_X4_15 rfl h1 dX4_valueFor_83 ?_
        refine lv_iload_n hx hb dX4_valueFor_86 rfl (lv_at hl 0 rfl) ?_
        refine lv_iconst (v := 1) hx hb dX4_valueFor_87 (by decide) ?_
        refine lv_isub hx hb dX4_valueFor_88 ?_
        refine lv_iload hx hb dX4_valueFor_89 (lv_at hl 1 rfl) ?_
        refine lv_aload_n hx hb dX4_valueFor_91 rfl (lv_at hl 2 rfl) ?_
        obtain ⟨a17, h1, hf⟩ := bs hf
        refine am_gr X hS fl_X4_15 rfl h1 dX4_valueFor_92 ?_
        refine lv_iload_n hx hb dX4_valueFor_95 rfl (lv_at hl 0 rfl) ?_
        refine lv_iconst (v := 1) hx hb dX4_valueFor_96 (by decide) ?_
        refine lv_isub hx hb dX4_valueFor_97 ?_
        obtain ⟨v18, h1, hf⟩ := bs hf
        refine am_ald X hS h1 dX4_valueFor_98 ?_
        refine lv_aload_n hx hb dX4_valueFor_99 rfl (lv_at hl 2 rfl) ?_
        obtain ⟨a19, h1, hf⟩ := bs hf
        refine am_gr X hS fl_X4_15 rfl h1 dX4_valueFor_100 ?_
        refine lv_iload_n hx hb dX4_valueFor_103 rfl (lv_at hl 0 rfl) ?_
        obtain ⟨v20, h1, hf⟩ := bs hf
        refine am_ald X hS h1 dX4_valueFor_104 ?_
        obtain ⟨v21, h1, hf⟩ := bs hf
        refine am_endi hS (am_runS (As := [.int x4_12, .int v18, .int v20]) X (hml.trans hl.1.symm) hS (cX4_joined_ok (l := l) (E := E) h1) ms_X4_79 ⟨Nat.le_trans (by decide) hR.1, Nat.le_trans (by decide) hR.2⟩ ⟨Nat.zero_le _, Nat.zero_le _⟩ rfl rfl (Nat.le_of_ble_eq_true rfl) dX4_valueFor_105) (fun H locs hS => ?_)
        obtain ⟨m22, h1, hf⟩ := bs hf
        refine am_ast X hS h1 dX4_valueFor_108 (fun H locs hS => ?_)
        exact hj109 x2_15 x3 m22 H locs ls hf hS (lv_sub hl [2, 3, 0, 4] rfl)
      · have hf := ifn hf q14
        obtain rfl : Sum.inr (Sum.inl mm) = ex4 := hyR4 _ (Option.some.inj hf).symm
        exact hj77 mm H locs ls hk4 hS (lv_sub hl [] rfl)
    · have hf := ifn hf q13
      refine lv_iload_n hx hb dX4_valueFor_28 rfl (lv_at hl 3 rfl) ?_
      refine lv_aload_n hx hb dX4_valueFor_29 rfl (lv_at hl 1 rfl) ?_
      obtain ⟨a23, h1, hf⟩ := bs hf
      refine am_gr X hS fl_X4_15 rfl h1 dX4_valueFor_30 ?_
      obtain ⟨v24, h1, hf⟩ := bs hf
      refine am_len X hS h1 dX4_valueFor_33 ?_
      refine lv_icmp_lt (tgt := 39) hx hb dX4_valueFor_34 (by decide) (fun q25 => ?_) (fun q25 => ?_)
      · have hf := ifp hf q25
        refine lv_aload_n hx hb dX4_valueFor_39 rfl (lv_at hl 1 rfl) ?_
        obtain ⟨a26, h1, hf⟩ := bs hf
        refine am_gr X hS fl_X4_15 rfl h1 dX4_valueFor_40 ?_
        refine lv_iload_n hx hb dX4_valueFor_43 rfl (lv_at hl 3 rfl) ?_
        refine lv_iload hx hb dX4_valueFor_44 (lv_at hl 0 rfl) ?_
        refine lv_sipush (v := 1000) hx hb dX4_valueFor_46 (by decide) ?_
        refine lv_icmp_ge (tgt := 57) hx hb dX4_valueFor_49 (by decide) (fun q27 => ?_) (fun q27 => ?_)
        · have hf := ifp hf q27
          refine lv_aload_n hx hb dX4_valueFor_57 rfl (lv_at hl 2 rfl) ?_
          refine lv_iload hx hb dX4_valueFor_58 (lv_at hl 0 rfl) ?_
          refine lv_sipush (v := 1000) hx hb dX4_valueFor_60 (by decide) ?_
          refine lv_isub hx hb dX4_valueFor_63 ?_
          obtain ⟨v28, h1, hf⟩ := bs hf
          refine am_ald X hS h1 dX4_valueFor_64 ?_
          exact hj65 x2 x3 a26 x2 v28 mm H locs ls hf hS (lv_sub hl [1, 2, 3, 4] rfl)
        · have hf := ifn hf q27
          refine lv_iload hx hb dX4_valueFor_52 (lv_at hl 0 rfl) ?_
          refine lv_goto (tgt := 65) hx hb dX4_valueFor_54 (by decide) ?_
          exact hj65 x2 x3 a26 x2 x4_12 mm H locs ls hf hS (lv_sub hl [1, 2, 3, 4] rfl)
      · have hf := ifn hf q25
        obtain rfl : Sum.inl mm = ex4 := hyR4 _ (Option.some.inj hf).symm
        exact hj37 mm H locs ls hk4 hS (lv_sub hl [] rfl)
set_option maxRecDepth 100000 in
theorem cX4_valueFor_ok {l : Launch} {E : Ev} {x0 : Nat} {x1 : Nat} {mm : Mem} {r : Int32} {mm1 : Mem} (hf : fX4_valueFor (eS E) x0 x1 mm = some (r, mm1)) : CtI l yX4_valueFor cX4_valueFor 5 (some .int) 1 22 E [.ref x0, .ref x1] mm r mm1 := by
  refine Met.ofW (cc := cX4_valueFor) (maxL := 5) (ret := (some .int)) (by decide) rfl ?_
  intro p e s m args below meth c s₁ B hml hv
  obtain ⟨rfl, X, hS, hr, hlocks⟩ := am_in B hv
  refine am_entry (Nat.le_of_ble_eq_true rfl) (fun ls hl => ?_)
  exact wX4_valueFor X hml ⟨Nat.le_refl _, Nat.le_refl _⟩ hf (fun pc H locs ls hn hd hS => am_ri X hS hr hn hd hlocks) _ _ ls hS hl
set_option maxHeartbeats 4000000 in
set_option maxRecDepth 100000 in
theorem wX7_push {p : Program} {l : Launch} {e : Env} {R : Room} {s : State} {m : MethodId} {args : Array Value} {below : List Frame} {meth : Method} {c : Code} {Q : State → Prop} {E : Ev} (X : Cx p s m args c cX7_push RX7 E) (hml : c.maxLocals = 2) (hR : 2 ≤ R.frames ∧ 81 ≤ R.locals) {x0 : Nat} {x1 : Nat} {mm : Mem} {mm1 : Mem} (hf : fX7_push (eS E) x0 x1 mm = some mm1) (hret : ∀ (pc : Nat) (H : Heap) (locs : List Loc) (ls : Array Slot), decode cX7_push pc = .ok (.return_, 1) → wS E s mm1 H locs → W p l e R s m args below meth c H locs 0 0 Q (F0 m pc ls [])) : ∀ (H : Heap) (locs : List Loc) (ls : Array Slot), wS E s mm H locs → lv_has ls 2 [(0, .ref x0), (1, .ref x1)] → W p l e R s m args below meth c H locs 0 0 Q (F0 m 0 ls []) := by
  have hx := X.1
  have hb := X.2.1
  unfold fX7_push at hf
  have hj32 : ∀ (mm : Mem) (H : Heap) (locs : List Loc) (ls : Array Slot), fX7_push_j32 (eS E) mm = some mm1 → wS E s mm H locs → lv_has ls 2 [] → W p l e R s m args below meth c H locs 0 0 Q (F0 m 32 ls []) := by
    intro mm H locs ls hf hS hl
    unfold fX7_push_j32 at hf
    cases hf
    exact hret _ _ _ _ dX7_push_32 hS
  intro H locs ls hS hl
  refine lv_aload_n hx hb dX7_push_0 rfl (lv_at hl 0 rfl) ?_
  obtain ⟨v1, h1, hf⟩ := bs hf
  refine am_gi X hS fl_X7_18 rfl h1 dX7_push_1 ?_
  refine lv_bipush (v := 16) hx hb dX7_push_4 (by decide) ?_
  refine lv_icmp_ge (tgt := 32) hx hb dX7_push_6 (by decide) (fun q2 => ?_) (fun q2 => ?_)
  · have hf := ifp hf q2
    exact hj32 mm H locs ls hf hS (lv_sub hl [] rfl)
  · have hf := ifn hf q2
    refine lv_aload_n hx hb dX7_push_9 rfl (lv_at hl 0 rfl) ?_
    obtain ⟨a3, h1, hf⟩ := bs hf
    refine am_gr X hS fl_X7_11 rfl h1 dX7_push_10 ?_
    refine lv_aload_n hx hb dX7_push_13 rfl (lv_at hl 0 rfl) ?_
    obtain ⟨v4, h1, hf⟩ := bs hf
    refine am_gi X hS fl_X7_18 rfl h1 dX7_push_14 ?_
    obtain ⟨a5, h1, hf⟩ := bs hf
    refine am_ara X hS h1 dX7_push_17 ?_
    refine lv_aload_n hx hb dX7_push_18 rfl (lv_at hl 1 rfl) ?_
    obtain ⟨u0, h0, hf⟩ := bs hf
    obtain ⟨_, hrc⟩ := isO_n h0
    obtain ⟨m6, h1, hf⟩ := bs hf
    refine am_endv hS (am_runV (As := [.ref x1]) X (hml.trans hl.1.symm) hS (cX2_copyFrom_ok (l := l) (E := E) h1) mv_X7_22 hrc rfl ⟨Nat.le_trans (by decide) hR.1, Nat.le_trans (by decide) hR.2⟩ ⟨Nat.zero_le _, Nat.zero_le _⟩ rfl rfl (Nat.le_of_ble_eq_true rfl) dX7_push_19) (fun H locs hS => ?_)
    refine lv_aload_n hx hb dX7_push_22 rfl (lv_at hl 0 rfl) ?_
    refine lv_dup hx hb dX7_push_23 rfl ?_
    obtain ⟨v7, h1, hf⟩ := bs hf
    refine am_gi X hS fl_X7_18 rfl h1 dX7_push_24 ?_
    refine lv_iconst (v := 1) hx hb dX7_push_27 (by decide) ?_
    refine lv_iadd hx hb dX7_push_28 ?_
    obtain ⟨m8, h1, hf⟩ := bs hf
    refine am_pi X hS fp_X7_18 rfl h1 dX7_push_29 (fun H locs hS => ?_)
    exact hj32 m8 H locs ls hf hS (lv_sub hl [] rfl)
set_option maxRecDepth 100000 in
theorem cX7_push_ok {l : Launch} {E : Ev} {x0 : Nat} {x1 : Nat} {mm : Mem} {mm1 : Mem} (hf : fX7_push (eS E) x0 x1 mm = some mm1) : CtV l yX7_push cX7_push 2 none 2 81 E [.ref x0, .ref x1] mm mm1 := by
  refine Met.ofW (cc := cX7_push) (maxL := 2) (ret := none) (by decide) rfl ?_
  intro p e s m args below meth c s₁ B hml hv
  obtain ⟨rfl, X, hS, hr, hlocks⟩ := am_in B hv
  refine am_entry (Nat.le_of_ble_eq_true rfl) (fun ls hl => ?_)
  exact wX7_push X hml ⟨Nat.le_refl _, Nat.le_refl _⟩ hf (fun pc H locs ls hd hS => am_rv X hS hr hd hlocks) _ _ ls hS hl
set_option maxHeartbeats 4000000 in
set_option maxRecDepth 100000 in
theorem wX7_popInto {p : Program} {l : Launch} {e : Env} {R : Room} {s : State} {m : MethodId} {args : Array Value} {below : List Frame} {meth : Method} {c : Code} {Q : State → Prop} {E : Ev} (X : Cx p s m args c cX7_popInto RX7 E) (hml : c.maxLocals = 2) (hR : 2 ≤ R.frames ∧ 81 ≤ R.locals) {x0 : Nat} {x1 : Nat} {mm : Mem} {mm1 : Mem} (hf : fX7_popInto (eS E) x0 x1 mm = some mm1) (hret : ∀ (pc : Nat) (H : Heap) (locs : List Loc) (ls : Array Slot), decode cX7_popInto pc = .ok (.return_, 1) → wS E s mm1 H locs → W p l e R s m args below meth c H locs 0 0 Q (F0 m pc ls [])) : ∀ (H : Heap) (locs : List Loc) (ls : Array Slot), wS E s mm H locs → lv_has ls 2 [(0, .ref x0), (1, .ref x1)] → W p l e R s m args below meth c H locs 0 0 Q (F0 m 0 ls []) := by
  have hx := X.1
  have hb := X.2.1
  unfold fX7_popInto at hf
  have hj30 : ∀ (mm : Mem) (H : Heap) (locs : List Loc) (ls : Array Slot), fX7_popInto_j30 (eS E) mm = some mm1 → wS E s mm H locs → lv_has ls 2 [] → W p l e R s m args below meth c H locs 0 0 Q (F0 m 30 ls []) := by
    intro mm H locs ls hf hS hl
    unfold fX7_popInto_j30 at hf
    cases hf
    exact hret _ _ _ _ dX7_popInto_30 hS
  intro H locs ls hS hl
  refine lv_aload_n hx hb dX7_popInto_0 rfl (lv_at hl 0 rfl) ?_
  obtain ⟨v1, h1, hf⟩ := bs hf
  refine am_gi X hS fl_X7_18 rfl h1 dX7_popInto_1 ?_
  refine lv_if_le (tgt := 30) hx hb dX7_popInto_4 (by decide) (fun q2 => ?_) (fun q2 => ?_)
  · have hf := ifp hf q2
    exact hj30 mm H locs ls hf hS (lv_sub hl [] rfl)
  · have hf := ifn hf q2
    refine lv_aload_n hx hb dX7_popInto_7 rfl (lv_at hl 0 rfl) ?_
    refine lv_dup hx hb dX7_popInto_8 rfl ?_
    obtain ⟨v3, h1, hf⟩ := bs hf
    refine am_gi X hS fl_X7_18 rfl h1 dX7_popInto_9 ?_
    refine lv_iconst (v := 1) hx hb dX7_popInto_12 (by decide) ?_
    refine lv_isub hx hb dX7_popInto_13 ?_
    obtain ⟨m4, h1, hf⟩ := bs hf
    refine am_pi X hS fp_X7_18 rfl h1 dX7_popInto_14 (fun H locs hS => ?_)
    refine lv_aload_n hx hb dX7_popInto_17 rfl (lv_at hl 1 rfl) ?_
    refine lv_aload_n hx hb dX7_popInto_18 rfl (lv_at hl 0 rfl) ?_
    obtain ⟨a5, h1, hf⟩ := bs hf
    refine am_gr X hS fl_X7_11 rfl h1 dX7_popInto_19 ?_
    refine lv_aload_n hx hb dX7_popInto_22 rfl (lv_at hl 0 rfl) ?_
    obtain ⟨v6, h1, hf⟩ := bs hf
    refine am_gi X hS fl_X7_18 rfl h1 dX7_popInto_23 ?_
    obtain ⟨a7, h1, hf⟩ := bs hf
    refine am_ara X hS h1 dX7_popInto_26 ?_
    obtain ⟨u0, h0, hf⟩ := bs hf
    obtain ⟨_, hrc⟩ := isO_n h0
    obtain ⟨m8, h1, hf⟩ := bs hf
    refine am_endv hS (am_runV (As := [.ref a7]) X (hml.trans hl.1.symm) hS (cX2_copyFrom_ok (l := l) (E := E) h1) mv_X7_22 hrc rfl ⟨Nat.le_trans (by decide) hR.1, Nat.le_trans (by decide) hR.2⟩ ⟨Nat.zero_le _, Nat.zero_le _⟩ rfl rfl (Nat.le_of_ble_eq_true rfl) dX7_popInto_27) (fun H locs hS => ?_)
    exact hj30 m8 H locs ls hf hS (lv_sub hl [] rfl)
set_option maxRecDepth 100000 in
theorem cX7_popInto_ok {l : Launch} {E : Ev} {x0 : Nat} {x1 : Nat} {mm : Mem} {mm1 : Mem} (hf : fX7_popInto (eS E) x0 x1 mm = some mm1) : CtV l yX7_popInto cX7_popInto 2 none 2 81 E [.ref x0, .ref x1] mm mm1 := by
  refine Met.ofW (cc := cX7_popInto) (maxL := 2) (ret := none) (by decide) rfl ?_
  intro p e s m args below meth c s₁ B hml hv
  obtain ⟨rfl, X, hS, hr, hlocks⟩ := am_in B hv
  refine am_entry (Nat.le_of_ble_eq_true rfl) (fun ls hl => ?_)
  exact wX7_popInto X hml ⟨Nat.le_refl _, Nat.le_refl _⟩ hf (fun pc H locs ls hd hS => am_rv X hS hr hd hlocks) _ _ ls hS hl
set_option maxHeartbeats 4000000 in
set_option maxRecDepth 100000 in
theorem wX7_copyFrom {p : Program} {l : Launch} {e : Env} {R : Room} {s : State} {m : MethodId} {args : Array Value} {below : List Frame} {meth : Method} {c : Code} {Q : State → Prop} {E : Ev} (X : Cx p s m args c cX7_copyFrom RX7 E) (hml : c.maxLocals = 3) (hR : 2 ≤ R.frames ∧ 81 ≤ R.locals) {x0 : Nat} {x1 : Nat} {mm : Mem} {mm1 : Mem} (hf : fX7_copyFrom (eS E) x0 x1 mm = some mm1) (hret : ∀ (pc : Nat) (H : Heap) (locs : List Loc) (ls : Array Slot), decode cX7_copyFrom pc = .ok (.return_, 1) → wS E s mm1 H locs → W p l e R s m args below meth c H locs 0 0 Q (F0 m pc ls [])) : ∀ (H : Heap) (locs : List Loc) (ls : Array Slot), wS E s mm H locs → lv_has ls 3 [(0, .ref x0), (1, .ref x1)] → W p l e R s m args below meth c H locs 0 0 Q (F0 m 0 ls []) := by
  have hx := X.1
  have hb := X.2.1
  unfold fX7_copyFrom at hf
  have hj39 : ∀ (mm : Mem) (H : Heap) (locs : List Loc) (ls : Array Slot), fX7_copyFrom_j39 (eS E) mm = some mm1 → wS E s mm H locs → lv_has ls 3 [] → W p l e R s m args below meth c H locs 0 0 Q (F0 m 39 ls []) := by
    intro mm H locs ls hf hS hl
    unfold fX7_copyFrom_j39 at hf
    cases hf
    exact hret _ _ _ _ dX7_copyFrom_39 hS
  intro H locs ls hS hl
  refine lv_aload_n hx hb dX7_copyFrom_0 rfl (lv_at hl 0 rfl) ?_
  refine lv_aload_n hx hb dX7_copyFrom_1 rfl (lv_at hl 1 rfl) ?_
  obtain ⟨v1, h1, hf⟩ := bs hf
  refine am_gi X hS fl_X7_18 rfl h1 dX7_copyFrom_2 ?_
  obtain ⟨m2, h1, hf⟩ := bs hf
  refine am_pi X hS fp_X7_18 rfl h1 dX7_copyFrom_5 (fun H locs hS => ?_)
  refine lv_iconst (v := 0) hx hb dX7_copyFrom_8 (by decide) ?_
  refine lv_topi (fun x2_3 e1 => ?_)
  have hf := lt1_n e1 hf
  refine lv_istore_n (lv' := [(2, .int x2_3), (0, .ref x0), (1, .ref x1)]) hx hb dX7_copyFrom_9 rfl hl (by decide) rfl (fun ls hl => ?_)
  obtain ⟨ex10, hl10, hk10⟩ := bs hf
  refine loop_W (P := fun st => ∀ (H : Heap) (locs : List Loc) (ls : Array Slot), wS E s st.2 H locs → lv_has ls 3 [(0, .ref x0), (1, .ref x1), (2, .int st.1)] → W p l e R s m args below meth c H locs 0 0 Q (F0 m 10 ls [])) (ex := ex10) ?_ FU _ hl10 H locs ls hS (lv_sub hl [1, 2, 0] rfl)
  intro st y10 hf hyL10 hyR10 H locs ls hS hl
  obtain ⟨x2, mm⟩ := st
  have hf : fX7_copyFrom_b10 (eS E) x0 x1 x2 mm = some y10 := hf
  have hS : wS E s mm H locs := hS
  have hl : lv_has ls 3 [(0, .ref x0), (1, .ref x1), (2, .int x2)] := hl
  unfold fX7_copyFrom_b10 at hf
  refine lv_iload_n hx hb dX7_copyFrom_10 rfl (lv_at hl 2 rfl) ?_
  refine lv_aload_n hx hb dX7_copyFrom_11 rfl (lv_at hl 0 rfl) ?_
  obtain ⟨v4, h1, hf⟩ := bs hf
  refine am_gi X hS fl_X7_18 rfl h1 dX7_copyFrom_12 ?_
  refine lv_icmp_ge (tgt := 39) hx hb dX7_copyFrom_15 (by decide) (fun q5 => ?_) (fun q5 => ?_)
  · have hf := ifp hf q5
    obtain rfl : mm = ex10 := hyR10 _ (Option.some.inj hf).symm
    exact hj39 mm H locs ls hk10 hS (lv_sub hl [] rfl)
  · have hf := ifn hf q5
    refine lv_aload_n hx hb dX7_copyFrom_18 rfl (lv_at hl 0 rfl) ?_
    obtain ⟨a6, h1, hf⟩ := bs hf
    refine am_gr X hS fl_X7_11 rfl h1 dX7_copyFrom_19 ?_
    refine lv_iload_n hx hb dX7_copyFrom_22 rfl (lv_at hl 2 rfl) ?_
    obtain ⟨a7, h1, hf⟩ := bs hf
    refine am_ara X hS h1 dX7_copyFrom_23 ?_
    refine lv_aload_n hx hb dX7_copyFrom_24 rfl (lv_at hl 1 rfl) ?_
    obtain ⟨a8, h1, hf⟩ := bs hf
    refine am_gr X hS fl_X7_11 rfl h1 dX7_copyFrom_25 ?_
    refine lv_iload_n hx hb dX7_copyFrom_28 rfl (lv_at hl 2 rfl) ?_
    obtain ⟨a9, h1, hf⟩ := bs hf
    refine am_ara X hS h1 dX7_copyFrom_29 ?_
    obtain ⟨u0, h0, hf⟩ := bs hf
    obtain ⟨_, hrc⟩ := isO_n h0
    obtain ⟨m10, h1, hf⟩ := bs hf
    refine am_endv hS (am_runV (As := [.ref a9]) X (hml.trans hl.1.symm) hS (cX2_copyFrom_ok (l := l) (E := E) h1) mv_X7_22 hrc rfl ⟨Nat.le_trans (by decide) hR.1, Nat.le_trans (by decide) hR.2⟩ ⟨Nat.zero_le _, Nat.zero_le _⟩ rfl rfl (Nat.le_of_ble_eq_true rfl) dX7_copyFrom_30) (fun H locs hS => ?_)
    obtain ⟨x2_11, e1⟩ : ∃ z : Int32, z = x2 + 1 := ⟨_, rfl⟩
    have hf := lt1_n e1 hf
    refine lv_iinc (v := x2_11) (lv' := [(2, .int x2_11), (0, .ref x0), (1, .ref x1)]) hx hb dX7_copyFrom_33 hl (k := 2) rfl (by rw [e1]; rfl) (by decide) rfl (fun ls hl => ?_)
    refine lv_goto (tgt := 10) hx hb dX7_copyFrom_36 (by decide) ?_
    exact hyL10 _ (Option.some.inj hf).symm H locs ls hS (lv_sub hl [1, 2, 0] rfl)
set_option maxRecDepth 100000 in
theorem cX7_copyFrom_ok {l : Launch} {E : Ev} {x0 : Nat} {x1 : Nat} {mm : Mem} {mm1 : Mem} (hf : fX7_copyFrom (eS E) x0 x1 mm = some mm1) : CtV l yX7_copyFrom cX7_copyFrom 3 none 2 81 E [.ref x0, .ref x1] mm mm1 := by
  refine Met.ofW (cc := cX7_copyFrom) (maxL := 3) (ret := none) (by decide) rfl ?_
  intro p e s m args below meth c s₁ B hml hv
  obtain ⟨rfl, X, hS, hr, hlocks⟩ := am_in B hv
  refine am_entry (Nat.le_of_ble_eq_true rfl) (fun ls hl => ?_)
  exact wX7_copyFrom X hml ⟨Nat.le_refl _, Nat.le_refl _⟩ hf (fun pc H locs ls hd hS => am_rv X hS hr hd hlocks) _ _ ls hS hl
set_option maxHeartbeats 4000000 in
set_option maxRecDepth 100000 in
theorem wX8_put {p : Program} {l : Launch} {e : Env} {R : Room} {s : State} {m : MethodId} {args : Array Value} {below : List Frame} {meth : Method} {c : Code} {Q : State → Prop} {E : Ev} (X : Cx p s m args c cX8_put RX8 E) (hml : c.maxLocals = 3) (hR : 0 ≤ R.frames ∧ 0 ≤ R.locals) {x0 : Nat} {x1 : Int32} {mm : Mem} {mm1 : Mem} (hf : fX8_put (eS E) x0 x1 mm = some mm1) (hret : ∀ (pc : Nat) (H : Heap) (locs : List Loc) (ls : Array Slot), decode cX8_put pc = .ok (.return_, 1) → wS E s mm1 H locs → W p l e R s m args below meth c H locs 0 0 Q (F0 m pc ls [])) : ∀ (H : Heap) (locs : List Loc) (ls : Array Slot), wS E s mm H locs → lv_has ls 3 [(0, .ref x0), (1, .int x1)] → W p l e R s m args below meth c H locs 0 0 Q (F0 m 0 ls []) := by
  have hx := X.1
  have hb := X.2.1
  unfold fX8_put at hf
  have hj49 : ∀ (mm : Mem) (H : Heap) (locs : List Loc) (ls : Array Slot), fX8_put_j49 (eS E) mm = some mm1 → wS E s mm H locs → lv_has ls 3 [] → W p l e R s m args below meth c H locs 0 0 Q (F0 m 49 ls []) := by
    intro mm H locs ls hf hS hl
    unfold fX8_put_j49 at hf
    cases hf
    exact hret _ _ _ _ dX8_put_49 hS
  intro H locs ls hS hl
  refine lv_bipush (v := 24) hx hb dX8_put_0 (by decide) ?_
  refine lv_topi (fun x2_1 e1 => ?_)
  have hf := lt1_n e1 hf
  refine lv_istore_n (lv' := [(2, .int x2_1), (0, .ref x0), (1, .int x1)]) hx hb dX8_put_2 rfl hl (by decide) rfl (fun ls hl => ?_)
  obtain ⟨ex3, hl3, hk3⟩ := bs hf
  refine loop_W (P := fun st => ∀ (H : Heap) (locs : List Loc) (ls : Array Slot), wS E s st.2 H locs → lv_has ls 3 [(0, .ref x0), (1, .int x1), (2, .int st.1)] → W p l e R s m args below meth c H locs 0 0 Q (F0 m 3 ls [])) (ex := ex3) ?_ FU _ hl3 H locs ls hS (lv_sub hl [1, 2, 0] rfl)
  intro st y3 hf hyL3 hyR3 H locs ls hS hl
  obtain ⟨x2, mm⟩ := st
  have hf : fX8_put_b3 (eS E) x0 x1 x2 mm = some y3 := hf
  have hS : wS E s mm H locs := hS
  have hl : lv_has ls 3 [(0, .ref x0), (1, .int x1), (2, .int x2)] := hl
  unfold fX8_put_b3 at hf
  refine lv_iload_n hx hb dX8_put_3 rfl (lv_at hl 2 rfl) ?_
  refine lv_if_lt (tgt := 49) hx hb dX8_put_4 (by decide) (fun q2 => ?_) (fun q2 => ?_)
  · have hf := ifp hf q2
    obtain rfl : mm = ex3 := hyR3 _ (Option.some.inj hf).symm
    exact hj49 mm H locs ls hk3 hS (lv_sub hl [] rfl)
  · have hf := ifn hf q2
    refine lv_aload_n hx hb dX8_put_7 rfl (lv_at hl 0 rfl) ?_
    obtain ⟨v3, h1, hf⟩ := bs hf
    refine am_gi X hS fl_X8_19 rfl h1 dX8_put_8 ?_
    refine lv_sipush (v := 600) hx hb dX8_put_11 (by decide) ?_
    refine lv_icmp_ge (tgt := 49) hx hb dX8_put_14 (by decide) (fun q4 => ?_) (fun q4 => ?_)
    · have hf := ifp hf q4
      obtain rfl : mm = ex3 := hyR3 _ (Option.some.inj hf).symm
      exact hj49 mm H locs ls hk3 hS (lv_sub hl [] rfl)
    · have hf := ifn hf q4
      refine lv_aload_n hx hb dX8_put_17 rfl (lv_at hl 0 rfl) ?_
      obtain ⟨a5, h1, hf⟩ := bs hf
      refine am_gr X hS fl_X8_9 rfl h1 dX8_put_18 ?_
      refine lv_aload_n hx hb dX8_put_21 rfl (lv_at hl 0 rfl) ?_
      obtain ⟨v6, h1, hf⟩ := bs hf
      refine am_gi X hS fl_X8_19 rfl h1 dX8_put_22 ?_
      refine lv_iload_n hx hb dX8_put_25 rfl (lv_at hl 1 rfl) ?_
      refine lv_iload_n hx hb dX8_put_26 rfl (lv_at hl 2 rfl) ?_
      refine lv_iushr (v := (uShr x1 x2)) hx hb dX8_put_27 rfl ?_
      refine lv_sipush (v := 255) hx hb dX8_put_28 (by decide) ?_
      refine lv_iand hx hb dX8_put_31 ?_
      obtain ⟨m7, h1, hf⟩ := bs hf
      refine am_ast X hS h1 dX8_put_32 (fun H locs hS => ?_)
      refine lv_aload_n hx hb dX8_put_33 rfl (lv_at hl 0 rfl) ?_
      refine lv_dup hx hb dX8_put_34 rfl ?_
      obtain ⟨v8, h1, hf⟩ := bs hf
      refine am_gi X hS fl_X8_19 rfl h1 dX8_put_35 ?_
      refine lv_iconst (v := 1) hx hb dX8_put_38 (by decide) ?_
      refine lv_iadd hx hb dX8_put_39 ?_
      obtain ⟨m9, h1, hf⟩ := bs hf
      refine am_pi X hS fp_X8_19 rfl h1 dX8_put_40 (fun H locs hS => ?_)
      obtain ⟨x2_10, e1⟩ : ∃ z : Int32, z = x2 + (-8) := ⟨_, rfl⟩
      have hf := lt1_n e1 hf
      refine lv_iinc (v := x2_10) (lv' := [(2, .int x2_10), (0, .ref x0), (1, .int x1)]) hx hb dX8_put_43 hl (k := 2) rfl (by rw [e1]; rfl) (by decide) rfl (fun ls hl => ?_)
      refine lv_goto (tgt := 3) hx hb dX8_put_46 (by decide) ?_
      exact hyL3 _ (Option.some.inj hf).symm H locs ls hS (lv_sub hl [1, 2, 0] rfl)
set_option maxRecDepth 100000 in
theorem cX8_put_ok {l : Launch} {E : Ev} {x0 : Nat} {x1 : Int32} {mm : Mem} {mm1 : Mem} (hf : fX8_put (eS E) x0 x1 mm = some mm1) : CtV l yX8_put cX8_put 3 none 0 0 E [.ref x0, .int x1] mm mm1 := by
  refine Met.ofW (cc := cX8_put) (maxL := 3) (ret := none) (by decide) rfl ?_
  intro p e s m args below meth c s₁ B hml hv
  obtain ⟨rfl, X, hS, hr, hlocks⟩ := am_in B hv
  refine am_entry (Nat.le_of_ble_eq_true rfl) (fun ls hl => ?_)
  exact wX8_put X hml ⟨Nat.le_refl _, Nat.le_refl _⟩ hf (fun pc H locs ls hd hS => am_rv X hS hr hd hlocks) _ _ ls hS hl
set_option maxHeartbeats 4000000 in
set_option maxRecDepth 100000 in
theorem wX8_open {p : Program} {l : Launch} {e : Env} {R : Room} {s : State} {m : MethodId} {args : Array Value} {below : List Frame} {meth : Method} {c : Code} {Q : State → Prop} {E : Ev} (X : Cx p s m args c cX8_open RX8 E) (hml : c.maxLocals = 2) (hR : 0 ≤ R.frames ∧ 0 ≤ R.locals) {x0 : Nat} {x1 : Int32} {mm : Mem} {mm1 : Mem} (hf : fX8_open (eS E) x0 x1 mm = some mm1) (hret : ∀ (pc : Nat) (H : Heap) (locs : List Loc) (ls : Array Slot), decode cX8_open pc = .ok (.return_, 1) → wS E s mm1 H locs → W p l e R s m args below meth c H locs 0 0 Q (F0 m pc ls [])) : ∀ (H : Heap) (locs : List Loc) (ls : Array Slot), wS E s mm H locs → lv_has ls 2 [(0, .ref x0), (1, .int x1)] → W p l e R s m args below meth c H locs 0 0 Q (F0 m 0 ls []) := by
  have hx := X.1
  have hb := X.2.1
  unfold fX8_open at hf
  intro H locs ls hS hl
  refine lv_aload_n hx hb dX8_open_0 rfl (lv_at hl 0 rfl) ?_
  refine lv_iload_n hx hb dX8_open_1 rfl (lv_at hl 1 rfl) ?_
  obtain ⟨m1, h1, hf⟩ := bs hf
  refine am_pi X hS fp_X8_22 rfl h1 dX8_open_2 (fun H locs hS => ?_)
  refine lv_aload_n hx hb dX8_open_5 rfl (lv_at hl 0 rfl) ?_
  refine lv_iconst (v := 0) hx hb dX8_open_6 (by decide) ?_
  obtain ⟨m2, h1, hf⟩ := bs hf
  refine am_pi X hS fp_X8_25 rfl h1 dX8_open_7 (fun H locs hS => ?_)
  refine lv_aload_n hx hb dX8_open_10 rfl (lv_at hl 0 rfl) ?_
  refine lv_iconst (v := 0) hx hb dX8_open_11 (by decide) ?_
  obtain ⟨m3, h1, hf⟩ := bs hf
  refine am_pi X hS fp_X8_19 rfl h1 dX8_open_12 (fun H locs hS => ?_)
  refine lv_aload_n hx hb dX8_open_15 rfl (lv_at hl 0 rfl) ?_
  refine lv_iconst (v := 0) hx hb dX8_open_16 (by decide) ?_
  obtain ⟨m4, h1, hf⟩ := bs hf
  refine am_pi X hS fp_X8_28 rfl h1 dX8_open_17 (fun H locs hS => ?_)
  refine lv_aload_n hx hb dX8_open_20 rfl (lv_at hl 0 rfl) ?_
  refine lv_iconst (v := (-1)) hx hb dX8_open_21 (by decide) ?_
  obtain ⟨m5, h1, hf⟩ := bs hf
  refine am_pi X hS fp_X8_15 rfl h1 dX8_open_22 (fun H locs hS => ?_)
  cases hf
  exact hret _ _ _ _ dX8_open_25 hS
set_option maxRecDepth 100000 in
theorem cX8_open_ok {l : Launch} {E : Ev} {x0 : Nat} {x1 : Int32} {mm : Mem} {mm1 : Mem} (hf : fX8_open (eS E) x0 x1 mm = some mm1) : CtV l yX8_open cX8_open 2 none 0 0 E [.ref x0, .int x1] mm mm1 := by
  refine Met.ofW (cc := cX8_open) (maxL := 2) (ret := none) (by decide) rfl ?_
  intro p e s m args below meth c s₁ B hml hv
  obtain ⟨rfl, X, hS, hr, hlocks⟩ := am_in B hv
  refine am_entry (Nat.le_of_ble_eq_true rfl) (fun ls hl => ?_)
  exact wX8_open X hml ⟨Nat.le_refl _, Nat.le_refl _⟩ hf (fun pc H locs ls hd hS => am_rv X hS hr hd hlocks) _ _ ls hS hl
set_option maxHeartbeats 4000000 in
set_option maxRecDepth 100000 in
theorem wX8_sees {p : Program} {l : Launch} {e : Env} {R : Room} {s : State} {m : MethodId} {args : Array Value} {below : List Frame} {meth : Method} {c : Code} {Q : State → Prop} {E : Ev} (X : Cx p s m args c cX8_sees RX8 E) (hml : c.maxLocals = 2) (hR : 1 ≤ R.frames ∧ 20 ≤ R.locals) {x0 : Nat} {x1 : Int32} {mm : Mem} {r : Int32} {mm1 : Mem} (hf : fX8_sees (eS E) x0 x1 mm = some (r, mm1)) (hret : ∀ (pc : Nat) (H : Heap) (locs : List Loc) (ls : Array Slot), narrow .boolean (.int r) = .int r → decode cX8_sees pc = .ok (.ireturn, 1) → wS E s mm1 H locs → W p l e R s m args below meth c H locs 0 0 Q (F0 m pc ls [.int r])) : ∀ (H : Heap) (locs : List Loc) (ls : Array Slot), wS E s mm H locs → lv_has ls 2 [(0, .ref x0), (1, .int x1)] → W p l e R s m args below meth c H locs 0 0 Q (F0 m 0 ls []) := by
  have hx := X.1
  have hb := X.2.1
  unfold fX8_sees at hf
  have hj29 : ∀ (s0 : Int32) (mm : Mem) (H : Heap) (locs : List Loc) (ls : Array Slot), fX8_sees_j29 (eS E) s0 mm = some (r, mm1) → wS E s mm H locs → lv_has ls 2 [] → W p l e R s m args below meth c H locs 0 0 Q (F0 m 29 ls [.int s0]) := by
    intro s0 mm H locs ls hf hS hl
    unfold fX8_sees_j29 at hf
    obtain ⟨v1, h1, hf⟩ := bs hf
    obtain ⟨rfl, h2⟩ := ckZ_n h1
    cases hf
    exact hret _ _ _ _ h2 dX8_sees_29 hS
  have hj28 : ∀ (mm : Mem) (H : Heap) (locs : List Loc) (ls : Array Slot), fX8_sees_j28 (eS E) mm = some (r, mm1) → wS E s mm H locs → lv_has ls 2 [] → W p l e R s m args below meth c H locs 0 0 Q (F0 m 28 ls []) := by
    intro mm H locs ls hf hS hl
    unfold fX8_sees_j28 at hf
    refine lv_iconst (v := 0) hx hb dX8_sees_28 (by decide) ?_
    exact hj29 0 mm H locs ls hf hS hl
  intro H locs ls hS hl
  refine lv_aload_n hx hb dX8_sees_0 rfl (lv_at hl 0 rfl) ?_
  obtain ⟨u0, h0, hf⟩ := bs hf
  obtain ⟨_, hrc⟩ := isO_n h0
  obtain ⟨v2, m3, h1, hf⟩ := bs2 hf
  refine am_endi hS (am_runV (As := []) X (hml.trans hl.1.symm) hS (cX8_next_ok (l := l) (E := E) h1) mv_X8_31 hrc rfl ⟨Nat.le_trans (by decide) hR.1, Nat.le_trans (by decide) hR.2⟩ ⟨Nat.zero_le _, Nat.zero_le _⟩ rfl rfl (Nat.le_of_ble_eq_true rfl) dX8_sees_1) (fun H locs hS => ?_)
  refine lv_aload_n hx hb dX8_sees_4 rfl (lv_at hl 0 rfl) ?_
  obtain ⟨v4, h1, hf⟩ := bs hf
  refine am_gi X hS fl_X8_22 rfl h1 dX8_sees_5 ?_
  refine lv_icmp_ge (tgt := 28) hx hb dX8_sees_8 (by decide) (fun q5 => ?_) (fun q5 => ?_)
  · have hf := ifp hf q5
    exact hj28 m3 H locs ls hf hS (lv_sub hl [] rfl)
  · have hf := ifn hf q5
    refine lv_aload_n hx hb dX8_sees_11 rfl (lv_at hl 0 rfl) ?_
    obtain ⟨a6, h1, hf⟩ := bs hf
    refine am_gr X hS fl_X8_9 rfl h1 dX8_sees_12 ?_
    refine lv_aload_n hx hb dX8_sees_15 rfl (lv_at hl 0 rfl) ?_
    obtain ⟨v7, h1, hf⟩ := bs hf
    refine am_gi X hS fl_X8_25 rfl h1 dX8_sees_16 ?_
    obtain ⟨v8, h1, hf⟩ := bs hf
    refine am_ald X hS h1 dX8_sees_19 ?_
    refine lv_iload_n hx hb dX8_sees_20 rfl (lv_at hl 1 rfl) ?_
    refine lv_icmp_ne (tgt := 28) hx hb dX8_sees_21 (by decide) (fun q9 => ?_) (fun q9 => ?_)
    · have hf := ifn hf q9
      exact hj28 m3 H locs ls hf hS (lv_sub hl [] rfl)
    · have hf := ifp hf q9
      refine lv_iconst (v := 1) hx hb dX8_sees_24 (by decide) ?_
      refine lv_goto (tgt := 29) hx hb dX8_sees_25 (by decide) ?_
      exact hj29 1 m3 H locs ls hf hS (lv_sub hl [] rfl)
set_option maxRecDepth 100000 in
theorem cX8_sees_ok {l : Launch} {E : Ev} {x0 : Nat} {x1 : Int32} {mm : Mem} {r : Int32} {mm1 : Mem} (hf : fX8_sees (eS E) x0 x1 mm = some (r, mm1)) : CtI l yX8_sees cX8_sees 2 (some .boolean) 1 20 E [.ref x0, .int x1] mm r mm1 := by
  refine Met.ofW (cc := cX8_sees) (maxL := 2) (ret := (some .boolean)) (by decide) rfl ?_
  intro p e s m args below meth c s₁ B hml hv
  obtain ⟨rfl, X, hS, hr, hlocks⟩ := am_in B hv
  refine am_entry (Nat.le_of_ble_eq_true rfl) (fun ls hl => ?_)
  exact wX8_sees X hml ⟨Nat.le_refl _, Nat.le_refl _⟩ hf (fun pc H locs ls hn hd hS => am_ri X hS hr hn hd hlocks) _ _ ls hS hl

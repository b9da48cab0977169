theorem dX6_fitsBook_0 : decode cX6_fitsBook 0 = .ok (.aload_n 0, 1) := by decide +kernel
theorem dX6_fitsBook_1 : decode cX6_fitsBook 1 = .ok (.getfield 39, 3) := by decide +kernel
theorem dX6_fitsBook_4 : decode cX6_fitsBook 4 = .ok (.aload_n 0, 1) := by decide +kernel
theorem dX6_fitsBook_5 : decode cX6_fitsBook 5 = .ok (.getfield 32, 3) := by decide +kernel
theorem dX6_fitsBook_8 : decode cX6_fitsBook 8 = .ok (.arraylength, 1) := by decide +kernel
theorem dX6_fitsBook_9 : decode cX6_fitsBook 9 = .ok (.if_icmp .lt 5, 3) := by decide +kernel
theorem dX6_fitsBook_12 : decode cX6_fitsBook 12 = .ok (.iconst 0, 1) := by decide +kernel
theorem dX6_fitsBook_13 : decode cX6_fitsBook 13 = .ok (.ireturn, 1) := by decide +kernel
theorem dX6_fitsBook_14 : decode cX6_fitsBook 14 = .ok (.aload_n 0, 1) := by decide +kernel
theorem dX6_fitsBook_15 : decode cX6_fitsBook 15 = .ok (.getfield 32, 3) := by decide +kernel
theorem dX6_fitsBook_18 : decode cX6_fitsBook 18 = .ok (.aload_n 0, 1) := by decide +kernel
theorem dX6_fitsBook_19 : decode cX6_fitsBook 19 = .ok (.getfield 39, 3) := by decide +kernel
theorem dX6_fitsBook_22 : decode cX6_fitsBook 22 = .ok (.aaload, 1) := by decide +kernel
theorem dX6_fitsBook_23 : decode cX6_fitsBook 23 = .ok (.astore 4, 2) := by decide +kernel
theorem dX6_fitsBook_25 : decode cX6_fitsBook 25 = .ok (.aload 4, 2) := by decide +kernel
theorem dX6_fitsBook_27 : decode cX6_fitsBook 27 = .ok (.iconst 0, 1) := by decide +kernel
theorem dX6_fitsBook_28 : decode cX6_fitsBook 28 = .ok (.invokestatic 62, 3) := by decide +kernel
theorem dX6_fitsBook_31 : decode cX6_fitsBook 31 = .ok (.aload_n 0, 1) := by decide +kernel
theorem dX6_fitsBook_32 : decode cX6_fitsBook 32 = .ok (.getfield 26, 3) := by decide +kernel
theorem dX6_fitsBook_35 : decode cX6_fitsBook 35 = .ok (.aload_n 1, 1) := by decide +kernel
theorem dX6_fitsBook_36 : decode cX6_fitsBook 36 = .ok (.invokevirtual 68, 3) := by decide +kernel
theorem dX6_fitsBook_39 : decode cX6_fitsBook 39 = .ok (.aload_n 0, 1) := by decide +kernel
theorem dX6_fitsBook_40 : decode cX6_fitsBook 40 = .ok (.getfield 19, 3) := by decide +kernel
theorem dX6_fitsBook_43 : decode cX6_fitsBook 43 = .ok (.aload_n 0, 1) := by decide +kernel
theorem dX6_fitsBook_44 : decode cX6_fitsBook 44 = .ok (.getfield 26, 3) := by decide +kernel
theorem dX6_fitsBook_47 : decode cX6_fitsBook 47 = .ok (.iload_n 2, 1) := by decide +kernel
theorem dX6_fitsBook_48 : decode cX6_fitsBook 48 = .ok (.iload_n 3, 1) := by decide +kernel
theorem dX6_fitsBook_49 : decode cX6_fitsBook 49 = .ok (.invokevirtual 72, 3) := by decide +kernel
theorem dX6_fitsBook_52 : decode cX6_fitsBook 52 = .ok (.pop, 1) := by decide +kernel
theorem dX6_fitsBook_53 : decode cX6_fitsBook 53 = .ok (.iconst 0, 1) := by decide +kernel
theorem dX6_fitsBook_54 : decode cX6_fitsBook 54 = .ok (.istore 5, 2) := by decide +kernel
theorem dX6_fitsBook_56 : decode cX6_fitsBook 56 = .ok (.iload 5, 2) := by decide +kernel
theorem dX6_fitsBook_58 : decode cX6_fitsBook 58 = .ok (.bipush 42, 2) := by decide +kernel
theorem dX6_fitsBook_60 : decode cX6_fitsBook 60 = .ok (.if_icmp .ge 51, 3) := by decide +kernel
theorem dX6_fitsBook_63 : decode cX6_fitsBook 63 = .ok (.aload_n 0, 1) := by decide +kernel
theorem dX6_fitsBook_64 : decode cX6_fitsBook 64 = .ok (.getfield 26, 3) := by decide +kernel
theorem dX6_fitsBook_67 : decode cX6_fitsBook 67 = .ok (.getfield 77, 3) := by decide +kernel
theorem dX6_fitsBook_70 : decode cX6_fitsBook 70 = .ok (.iload 5, 2) := by decide +kernel
theorem dX6_fitsBook_72 : decode cX6_fitsBook 72 = .ok (.iaload, 1) := by decide +kernel
theorem dX6_fitsBook_73 : decode cX6_fitsBook 73 = .ok (.istore 6, 2) := by decide +kernel
theorem dX6_fitsBook_75 : decode cX6_fitsBook 75 = .ok (.iload 6, 2) := by decide +kernel
theorem dX6_fitsBook_77 : decode cX6_fitsBook 77 = .ok (.ifCond .lt 28, 3) := by decide +kernel
theorem dX6_fitsBook_80 : decode cX6_fitsBook 80 = .ok (.iload 6, 2) := by decide +kernel
theorem dX6_fitsBook_82 : decode cX6_fitsBook 82 = .ok (.bipush 99, 2) := by decide +kernel
theorem dX6_fitsBook_84 : decode cX6_fitsBook 84 = .ok (.if_icmp .ge 21, 3) := by decide +kernel
theorem dX6_fitsBook_87 : decode cX6_fitsBook 87 = .ok (.aload 4, 2) := by decide +kernel
theorem dX6_fitsBook_89 : decode cX6_fitsBook 89 = .ok (.iload 6, 2) := by decide +kernel
theorem dX6_fitsBook_91 : decode cX6_fitsBook 91 = .ok (.dup2, 1) := by decide +kernel
theorem dX6_fitsBook_92 : decode cX6_fitsBook 92 = .ok (.iaload, 1) := by decide +kernel
theorem dX6_fitsBook_93 : decode cX6_fitsBook 93 = .ok (.aload_n 0, 1) := by decide +kernel
theorem dX6_fitsBook_94 : decode cX6_fitsBook 94 = .ok (.getfield 26, 3) := by decide +kernel
theorem dX6_fitsBook_97 : decode cX6_fitsBook 97 = .ok (.getfield 80, 3) := by decide +kernel
theorem dX6_fitsBook_100 : decode cX6_fitsBook 100 = .ok (.iload 5, 2) := by decide +kernel
theorem dX6_fitsBook_102 : decode cX6_fitsBook 102 = .ok (.iaload, 1) := by decide +kernel
theorem dX6_fitsBook_103 : decode cX6_fitsBook 103 = .ok (.iadd, 1) := by decide +kernel
theorem dX6_fitsBook_104 : decode cX6_fitsBook 104 = .ok (.iastore, 1) := by decide +kernel
theorem dX6_fitsBook_105 : decode cX6_fitsBook 105 = .ok (.iinc 5 1, 3) := by decide +kernel
theorem dX6_fitsBook_108 : decode cX6_fitsBook 108 = .ok (.goto (-52), 3) := by decide +kernel
theorem dX6_fitsBook_111 : decode cX6_fitsBook 111 = .ok (.aload_n 0, 1) := by decide +kernel
theorem dX6_fitsBook_112 : decode cX6_fitsBook 112 = .ok (.getfield 15, 3) := by decide +kernel
theorem dX6_fitsBook_115 : decode cX6_fitsBook 115 = .ok (.aload 4, 2) := by decide +kernel
theorem dX6_fitsBook_117 : decode cX6_fitsBook 117 = .ok (.invokevirtual 83, 3) := by decide +kernel
theorem dX6_fitsBook_120 : decode cX6_fitsBook 120 = .ok (.ireturn, 1) := by decide +kernel
theorem dX5_joinedBits_0 : decode cX5_joinedBits 0 = .ok (.iconst 0, 1) := by decide +kernel
theorem dX5_joinedBits_1 : decode cX5_joinedBits 1 = .ok (.istore 4, 2) := by decide +kernel
theorem dX5_joinedBits_3 : decode cX5_joinedBits 3 = .ok (.iconst 0, 1) := by decide +kernel
theorem dX5_joinedBits_4 : decode cX5_joinedBits 4 = .ok (.istore 5, 2) := by decide +kernel
theorem dX5_joinedBits_6 : decode cX5_joinedBits 6 = .ok (.iload 5, 2) := by decide +kernel
theorem dX5_joinedBits_8 : decode cX5_joinedBits 8 = .ok (.bipush 7, 2) := by decide +kernel
theorem dX5_joinedBits_10 : decode cX5_joinedBits 10 = .ok (.if_icmp .ge 73, 3) := by decide +kernel
theorem dX5_joinedBits_13 : decode cX5_joinedBits 13 = .ok (.aload_n 0, 1) := by decide +kernel
theorem dX5_joinedBits_14 : decode cX5_joinedBits 14 = .ok (.getfield 9, 3) := by decide +kernel
theorem dX5_joinedBits_17 : decode cX5_joinedBits 17 = .ok (.iload_n 3, 1) := by decide +kernel
theorem dX5_joinedBits_18 : decode cX5_joinedBits 18 = .ok (.invokevirtual 62, 3) := by decide +kernel
theorem dX5_joinedBits_21 : decode cX5_joinedBits 21 = .ok (.ifCond .ne 62, 3) := by decide +kernel
theorem dX5_joinedBits_24 : decode cX5_joinedBits 24 = .ok (.iload_n 2, 1) := by decide +kernel
theorem dX5_joinedBits_25 : decode cX5_joinedBits 25 = .ok (.bipush 7, 2) := by decide +kernel
theorem dX5_joinedBits_27 : decode cX5_joinedBits 27 = .ok (.imul, 1) := by decide +kernel
theorem dX5_joinedBits_28 : decode cX5_joinedBits 28 = .ok (.iload 5, 2) := by decide +kernel
theorem dX5_joinedBits_30 : decode cX5_joinedBits 30 = .ok (.iadd, 1) := by decide +kernel
theorem dX5_joinedBits_31 : decode cX5_joinedBits 31 = .ok (.istore 6, 2) := by decide +kernel
theorem dX5_joinedBits_33 : decode cX5_joinedBits 33 = .ok (.aload_n 1, 1) := by decide +kernel
theorem dX5_joinedBits_34 : decode cX5_joinedBits 34 = .ok (.getfield 73, 3) := by decide +kernel
theorem dX5_joinedBits_37 : decode cX5_joinedBits 37 = .ok (.iload 6, 2) := by decide +kernel
theorem dX5_joinedBits_39 : decode cX5_joinedBits 39 = .ok (.iaload, 1) := by decide +kernel
theorem dX5_joinedBits_40 : decode cX5_joinedBits 40 = .ok (.istore 7, 2) := by decide +kernel
theorem dX5_joinedBits_42 : decode cX5_joinedBits 42 = .ok (.iload 7, 2) := by decide +kernel
theorem dX5_joinedBits_44 : decode cX5_joinedBits 44 = .ok (.ifCond .le 33, 3) := by decide +kernel
theorem dX5_joinedBits_47 : decode cX5_joinedBits 47 = .ok (.aload_n 1, 1) := by decide +kernel
theorem dX5_joinedBits_48 : decode cX5_joinedBits 48 = .ok (.getfield 76, 3) := by decide +kernel
theorem dX5_joinedBits_51 : decode cX5_joinedBits 51 = .ok (.iload 6, 2) := by decide +kernel
theorem dX5_joinedBits_53 : decode cX5_joinedBits 53 = .ok (.iaload, 1) := by decide +kernel
theorem dX5_joinedBits_54 : decode cX5_joinedBits 54 = .ok (.aload_n 0, 1) := by decide +kernel
theorem dX5_joinedBits_55 : decode cX5_joinedBits 55 = .ok (.aload_n 1, 1) := by decide +kernel
theorem dX5_joinedBits_56 : decode cX5_joinedBits 56 = .ok (.iload_n 2, 1) := by decide +kernel
theorem dX5_joinedBits_57 : decode cX5_joinedBits 57 = .ok (.iload 5, 2) := by decide +kernel
theorem dX5_joinedBits_59 : decode cX5_joinedBits 59 = .ok (.iload_n 3, 1) := by decide +kernel
theorem dX5_joinedBits_60 : decode cX5_joinedBits 60 = .ok (.iload 7, 2) := by decide +kernel
theorem dX5_joinedBits_62 : decode cX5_joinedBits 62 = .ok (.invokevirtual 69, 3) := by decide +kernel
theorem dX5_joinedBits_65 : decode cX5_joinedBits 65 = .ok (.if_icmp .ne 12, 3) := by decide +kernel
theorem dX5_joinedBits_68 : decode cX5_joinedBits 68 = .ok (.iload 4, 2) := by decide +kernel
theorem dX5_joinedBits_70 : decode cX5_joinedBits 70 = .ok (.iconst 1, 1) := by decide +kernel
theorem dX5_joinedBits_71 : decode cX5_joinedBits 71 = .ok (.iload 5, 2) := by decide +kernel
theorem dX5_joinedBits_73 : decode cX5_joinedBits 73 = .ok (.ishl, 1) := by decide +kernel
theorem dX5_joinedBits_74 : decode cX5_joinedBits 74 = .ok (.ior, 1) := by decide +kernel
theorem dX5_joinedBits_75 : decode cX5_joinedBits 75 = .ok (.istore 4, 2) := by decide +kernel
theorem dX5_joinedBits_77 : decode cX5_joinedBits 77 = .ok (.iinc 5 1, 3) := by decide +kernel
theorem dX5_joinedBits_80 : decode cX5_joinedBits 80 = .ok (.goto (-74), 3) := by decide +kernel
theorem dX5_joinedBits_83 : decode cX5_joinedBits 83 = .ok (.iload 4, 2) := by decide +kernel
theorem dX5_joinedBits_85 : decode cX5_joinedBits 85 = .ok (.ireturn, 1) := by decide +kernel
theorem dX9_draw_0 : decode cX9_draw 0 = .ok (.aload_n 0, 1) := by decide +kernel
theorem dX9_draw_1 : decode cX9_draw 1 = .ok (.aload_n 0, 1) := by decide +kernel
theorem dX9_draw_2 : decode cX9_draw 2 = .ok (.getfield 30, 3) := by decide +kernel
theorem dX9_draw_5 : decode cX9_draw 5 = .ok (.ldc 69, 2) := by decide +kernel
theorem dX9_draw_7 : decode cX9_draw 7 = .ok (.imul, 1) := by decide +kernel
theorem dX9_draw_8 : decode cX9_draw 8 = .ok (.sipush 12345, 3) := by decide +kernel
theorem dX9_draw_11 : decode cX9_draw 11 = .ok (.iadd, 1) := by decide +kernel
theorem dX9_draw_12 : decode cX9_draw 12 = .ok (.putfield 30, 3) := by decide +kernel
theorem dX9_draw_15 : decode cX9_draw 15 = .ok (.iload_n 1, 1) := by decide +kernel
theorem dX9_draw_16 : decode cX9_draw 16 = .ok (.iconst 1, 1) := by decide +kernel
theorem dX9_draw_17 : decode cX9_draw 17 = .ok (.if_icmp .ge 7, 3) := by decide +kernel
theorem dX9_draw_20 : decode cX9_draw 20 = .ok (.iconst 0, 1) := by decide +kernel
theorem dX9_draw_21 : decode cX9_draw 21 = .ok (.goto 16, 3) := by decide +kernel
theorem dX9_draw_24 : decode cX9_draw 24 = .ok (.aload_n 0, 1) := by decide +kernel
theorem dX9_draw_25 : decode cX9_draw 25 = .ok (.getfield 30, 3) := by decide +kernel
theorem dX9_draw_28 : decode cX9_draw 28 = .ok (.bipush 16, 2) := by decide +kernel
theorem dX9_draw_30 : decode cX9_draw 30 = .ok (.iushr, 1) := by decide +kernel
theorem dX9_draw_31 : decode cX9_draw 31 = .ok (.sipush 32767, 3) := by decide +kernel
theorem dX9_draw_34 : decode cX9_draw 34 = .ok (.iand, 1) := by decide +kernel
theorem dX9_draw_35 : decode cX9_draw 35 = .ok (.iload_n 1, 1) := by decide +kernel
theorem dX9_draw_36 : decode cX9_draw 36 = .ok (.irem, 1) := by decide +kernel
theorem dX9_draw_37 : decode cX9_draw 37 = .ok (.ireturn, 1) := by decide +kernel
theorem dX5_bounded_0 : decode cX5_bounded 0 = .ok (.iload_n 1, 1) := by decide +kernel
theorem dX5_bounded_1 : decode cX5_bounded 1 = .ok (.ifCond .ge 7, 3) := by decide +kernel
theorem dX5_bounded_4 : decode cX5_bounded 4 = .ok (.iconst 0, 1) := by decide +kernel
theorem dX5_bounded_5 : decode cX5_bounded 5 = .ok (.goto 27, 3) := by decide +kernel
theorem dX5_bounded_8 : decode cX5_bounded 8 = .ok (.iload_n 1, 1) := by decide +kernel
theorem dX5_bounded_9 : decode cX5_bounded 9 = .ok (.aload_n 0, 1) := by decide +kernel
theorem dX5_bounded_10 : decode cX5_bounded 10 = .ok (.getfield 9, 3) := by decide +kernel
theorem dX5_bounded_13 : decode cX5_bounded 13 = .ok (.getfield 59, 3) := by decide +kernel
theorem dX5_bounded_16 : decode cX5_bounded 16 = .ok (.if_icmp .ge 7, 3) := by decide +kernel
theorem dX5_bounded_19 : decode cX5_bounded 19 = .ok (.iload_n 1, 1) := by decide +kernel
theorem dX5_bounded_20 : decode cX5_bounded 20 = .ok (.goto 12, 3) := by decide +kernel
theorem dX5_bounded_23 : decode cX5_bounded 23 = .ok (.aload_n 0, 1) := by decide +kernel
theorem dX5_bounded_24 : decode cX5_bounded 24 = .ok (.getfield 9, 3) := by decide +kernel
theorem dX5_bounded_27 : decode cX5_bounded 27 = .ok (.getfield 59, 3) := by decide +kernel
theorem dX5_bounded_30 : decode cX5_bounded 30 = .ok (.iconst 1, 1) := by decide +kernel
theorem dX5_bounded_31 : decode cX5_bounded 31 = .ok (.isub, 1) := by decide +kernel
theorem dX5_bounded_32 : decode cX5_bounded 32 = .ok (.ireturn, 1) := by decide +kernel
theorem dX6_leftAtWorst_0 : decode cX6_leftAtWorst 0 = .ok (.iconst 0, 1) := by decide +kernel
theorem dX6_leftAtWorst_1 : decode cX6_leftAtWorst 1 = .ok (.istore_n 2, 1) := by decide +kernel
theorem dX6_leftAtWorst_2 : decode cX6_leftAtWorst 2 = .ok (.iconst 0, 1) := by decide +kernel
theorem dX6_leftAtWorst_3 : decode cX6_leftAtWorst 3 = .ok (.istore_n 3, 1) := by decide +kernel
theorem dX6_leftAtWorst_4 : decode cX6_leftAtWorst 4 = .ok (.iload_n 3, 1) := by decide +kernel
theorem dX6_leftAtWorst_5 : decode cX6_leftAtWorst 5 = .ok (.aload_n 0, 1) := by decide +kernel
theorem dX6_leftAtWorst_6 : decode cX6_leftAtWorst 6 = .ok (.getfield 39, 3) := by decide +kernel
theorem dX6_leftAtWorst_9 : decode cX6_leftAtWorst 9 = .ok (.if_icmp .ge 57, 3) := by decide +kernel
theorem dX6_leftAtWorst_12 : decode cX6_leftAtWorst 12 = .ok (.aload_n 0, 1) := by decide +kernel
theorem dX6_leftAtWorst_13 : decode cX6_leftAtWorst 13 = .ok (.getfield 32, 3) := by decide +kernel
theorem dX6_leftAtWorst_16 : decode cX6_leftAtWorst 16 = .ok (.iload_n 3, 1) := by decide +kernel
theorem dX6_leftAtWorst_17 : decode cX6_leftAtWorst 17 = .ok (.aaload, 1) := by decide +kernel
theorem dX6_leftAtWorst_18 : decode cX6_leftAtWorst 18 = .ok (.iload_n 1, 1) := by decide +kernel
theorem dX6_leftAtWorst_19 : decode cX6_leftAtWorst 19 = .ok (.iaload, 1) := by decide +kernel
theorem dX6_leftAtWorst_20 : decode cX6_leftAtWorst 20 = .ok (.istore 4, 2) := by decide +kernel
theorem dX6_leftAtWorst_22 : decode cX6_leftAtWorst 22 = .ok (.iload 4, 2) := by decide +kernel
theorem dX6_leftAtWorst_24 : decode cX6_leftAtWorst 24 = .ok (.ifCond .lt 36, 3) := by decide +kernel
theorem dX6_leftAtWorst_27 : decode cX6_leftAtWorst 27 = .ok (.iload 4, 2) := by decide +kernel
theorem dX6_leftAtWorst_29 : decode cX6_leftAtWorst 29 = .ok (.aload_n 0, 1) := by decide +kernel
theorem dX6_leftAtWorst_30 : decode cX6_leftAtWorst 30 = .ok (.getfield 35, 3) := by decide +kernel
theorem dX6_leftAtWorst_33 : decode cX6_leftAtWorst 33 = .ok (.arraylength, 1) := by decide +kernel
theorem dX6_leftAtWorst_34 : decode cX6_leftAtWorst 34 = .ok (.if_icmp .ge 26, 3) := by decide +kernel
theorem dX6_leftAtWorst_37 : decode cX6_leftAtWorst 37 = .ok (.aload_n 0, 1) := by decide +kernel
theorem dX6_leftAtWorst_38 : decode cX6_leftAtWorst 38 = .ok (.getfield 35, 3) := by decide +kernel
theorem dX6_leftAtWorst_41 : decode cX6_leftAtWorst 41 = .ok (.iload 4, 2) := by decide +kernel
theorem dX6_leftAtWorst_43 : decode cX6_leftAtWorst 43 = .ok (.dup2, 1) := by decide +kernel
theorem dX6_leftAtWorst_44 : decode cX6_leftAtWorst 44 = .ok (.iaload, 1) := by decide +kernel
theorem dX6_leftAtWorst_45 : decode cX6_leftAtWorst 45 = .ok (.iconst 1, 1) := by decide +kernel
theorem dX6_leftAtWorst_46 : decode cX6_leftAtWorst 46 = .ok (.iadd, 1) := by decide +kernel
theorem dX6_leftAtWorst_47 : decode cX6_leftAtWorst 47 = .ok (.iastore, 1) := by decide +kernel
theorem dX6_leftAtWorst_48 : decode cX6_leftAtWorst 48 = .ok (.iload_n 2, 1) := by decide +kernel
theorem dX6_leftAtWorst_49 : decode cX6_leftAtWorst 49 = .ok (.aload_n 0, 1) := by decide +kernel
theorem dX6_leftAtWorst_50 : decode cX6_leftAtWorst 50 = .ok (.getfield 35, 3) := by decide +kernel
theorem dX6_leftAtWorst_53 : decode cX6_leftAtWorst 53 = .ok (.iload 4, 2) := by decide +kernel
theorem dX6_leftAtWorst_55 : decode cX6_leftAtWorst 55 = .ok (.iaload, 1) := by decide +kernel
theorem dX6_leftAtWorst_56 : decode cX6_leftAtWorst 56 = .ok (.invokestatic 89, 3) := by decide +kernel
theorem dX6_leftAtWorst_59 : decode cX6_leftAtWorst 59 = .ok (.istore_n 2, 1) := by decide +kernel
theorem dX6_leftAtWorst_60 : decode cX6_leftAtWorst 60 = .ok (.iinc 3 1, 3) := by decide +kernel
theorem dX6_leftAtWorst_63 : decode cX6_leftAtWorst 63 = .ok (.goto (-59), 3) := by decide +kernel
theorem dX6_leftAtWorst_66 : decode cX6_leftAtWorst 66 = .ok (.iconst 0, 1) := by decide +kernel
theorem dX6_leftAtWorst_67 : decode cX6_leftAtWorst 67 = .ok (.istore_n 3, 1) := by decide +kernel
theorem dX6_leftAtWorst_68 : decode cX6_leftAtWorst 68 = .ok (.iload_n 3, 1) := by decide +kernel
theorem dX6_leftAtWorst_69 : decode cX6_leftAtWorst 69 = .ok (.aload_n 0, 1) := by decide +kernel
theorem dX6_leftAtWorst_70 : decode cX6_leftAtWorst 70 = .ok (.getfield 39, 3) := by decide +kernel
theorem dX6_leftAtWorst_73 : decode cX6_leftAtWorst 73 = .ok (.if_icmp .ge 42, 3) := by decide +kernel
theorem dX6_leftAtWorst_76 : decode cX6_leftAtWorst 76 = .ok (.aload_n 0, 1) := by decide +kernel
theorem dX6_leftAtWorst_77 : decode cX6_leftAtWorst 77 = .ok (.getfield 32, 3) := by decide +kernel
theorem dX6_leftAtWorst_80 : decode cX6_leftAtWorst 80 = .ok (.iload_n 3, 1) := by decide +kernel
theorem dX6_leftAtWorst_81 : decode cX6_leftAtWorst 81 = .ok (.aaload, 1) := by decide +kernel
theorem dX6_leftAtWorst_82 : decode cX6_leftAtWorst 82 = .ok (.iload_n 1, 1) := by decide +kernel
theorem dX6_leftAtWorst_83 : decode cX6_leftAtWorst 83 = .ok (.iaload, 1) := by decide +kernel
theorem dX6_leftAtWorst_84 : decode cX6_leftAtWorst 84 = .ok (.istore 4, 2) := by decide +kernel
theorem dX6_leftAtWorst_86 : decode cX6_leftAtWorst 86 = .ok (.iload 4, 2) := by decide +kernel
theorem dX6_leftAtWorst_88 : decode cX6_leftAtWorst 88 = .ok (.ifCond .lt 21, 3) := by decide +kernel
theorem dX6_leftAtWorst_91 : decode cX6_leftAtWorst 91 = .ok (.iload 4, 2) := by decide +kernel
theorem dX6_leftAtWorst_93 : decode cX6_leftAtWorst 93 = .ok (.aload_n 0, 1) := by decide +kernel
theorem dX6_leftAtWorst_94 : decode cX6_leftAtWorst 94 = .ok (.getfield 35, 3) := by decide +kernel
theorem dX6_leftAtWorst_97 : decode cX6_leftAtWorst 97 = .ok (.arraylength, 1) := by decide +kernel
theorem dX6_leftAtWorst_98 : decode cX6_leftAtWorst 98 = .ok (.if_icmp .ge 11, 3) := by decide +kernel
theorem dX6_leftAtWorst_101 : decode cX6_leftAtWorst 101 = .ok (.aload_n 0, 1) := by decide +kernel
theorem dX6_leftAtWorst_102 : decode cX6_leftAtWorst 102 = .ok (.getfield 35, 3) := by decide +kernel
theorem dX6_leftAtWorst_105 : decode cX6_leftAtWorst 105 = .ok (.iload 4, 2) := by decide +kernel
theorem dX6_leftAtWorst_107 : decode cX6_leftAtWorst 107 = .ok (.iconst 0, 1) := by decide +kernel
theorem dX6_leftAtWorst_108 : decode cX6_leftAtWorst 108 = .ok (.iastore, 1) := by decide +kernel
theorem dX6_leftAtWorst_109 : decode cX6_leftAtWorst 109 = .ok (.iinc 3 1, 3) := by decide +kernel
theorem dX6_leftAtWorst_112 : decode cX6_leftAtWorst 112 = .ok (.goto (-44), 3) := by decide +kernel
theorem dX6_leftAtWorst_115 : decode cX6_leftAtWorst 115 = .ok (.iload_n 2, 1) := by decide +kernel
theorem dX6_leftAtWorst_116 : decode cX6_leftAtWorst 116 = .ok (.ireturn, 1) := by decide +kernel
theorem dX5_joinBy_0 : decode cX5_joinBy 0 = .ok (.aload_n 0, 1) := by decide +kernel
theorem dX5_joinBy_1 : decode cX5_joinBy 1 = .ok (.aload_n 1, 1) := by decide +kernel
theorem dX5_joinBy_2 : decode cX5_joinBy 2 = .ok (.iload_n 2, 1) := by decide +kernel
theorem dX5_joinBy_3 : decode cX5_joinBy 3 = .ok (.iload_n 3, 1) := by decide +kernel
theorem dX5_joinBy_4 : decode cX5_joinBy 4 = .ok (.invokevirtual 79, 3) := by decide +kernel
theorem dX5_joinBy_7 : decode cX5_joinBy 7 = .ok (.istore 4, 2) := by decide +kernel
theorem dX5_joinBy_9 : decode cX5_joinBy 9 = .ok (.iconst 0, 1) := by decide +kernel
theorem dX5_joinBy_10 : decode cX5_joinBy 10 = .ok (.istore 5, 2) := by decide +kernel
theorem dX5_joinBy_12 : decode cX5_joinBy 12 = .ok (.iload 5, 2) := by decide +kernel
theorem dX5_joinBy_14 : decode cX5_joinBy 14 = .ok (.bipush 7, 2) := by decide +kernel
theorem dX5_joinBy_16 : decode cX5_joinBy 16 = .ok (.if_icmp .ge 54, 3) := by decide +kernel
theorem dX5_joinBy_19 : decode cX5_joinBy 19 = .ok (.iload_n 2, 1) := by decide +kernel
theorem dX5_joinBy_20 : decode cX5_joinBy 20 = .ok (.bipush 7, 2) := by decide +kernel
theorem dX5_joinBy_22 : decode cX5_joinBy 22 = .ok (.imul, 1) := by decide +kernel
theorem dX5_joinBy_23 : decode cX5_joinBy 23 = .ok (.iload 5, 2) := by decide +kernel
theorem dX5_joinBy_25 : decode cX5_joinBy 25 = .ok (.iadd, 1) := by decide +kernel
theorem dX5_joinBy_26 : decode cX5_joinBy 26 = .ok (.istore 6, 2) := by decide +kernel
theorem dX5_joinBy_28 : decode cX5_joinBy 28 = .ok (.iload 4, 2) := by decide +kernel
theorem dX5_joinBy_30 : decode cX5_joinBy 30 = .ok (.iload 5, 2) := by decide +kernel
theorem dX5_joinBy_32 : decode cX5_joinBy 32 = .ok (.ishr, 1) := by decide +kernel
theorem dX5_joinBy_33 : decode cX5_joinBy 33 = .ok (.iconst 1, 1) := by decide +kernel
theorem dX5_joinBy_34 : decode cX5_joinBy 34 = .ok (.iand, 1) := by decide +kernel
theorem dX5_joinBy_35 : decode cX5_joinBy 35 = .ok (.iconst 1, 1) := by decide +kernel
theorem dX5_joinBy_36 : decode cX5_joinBy 36 = .ok (.if_icmp .ne 28, 3) := by decide +kernel
theorem dX5_joinBy_39 : decode cX5_joinBy 39 = .ok (.aload_n 1, 1) := by decide +kernel
theorem dX5_joinBy_40 : decode cX5_joinBy 40 = .ok (.getfield 66, 3) := by decide +kernel
theorem dX5_joinBy_43 : decode cX5_joinBy 43 = .ok (.iload 6, 2) := by decide +kernel
theorem dX5_joinBy_45 : decode cX5_joinBy 45 = .ok (.dup2, 1) := by decide +kernel
theorem dX5_joinBy_46 : decode cX5_joinBy 46 = .ok (.iaload, 1) := by decide +kernel
theorem dX5_joinBy_47 : decode cX5_joinBy 47 = .ok (.aload_n 1, 1) := by decide +kernel
theorem dX5_joinBy_48 : decode cX5_joinBy 48 = .ok (.getfield 73, 3) := by decide +kernel
theorem dX5_joinBy_51 : decode cX5_joinBy 51 = .ok (.iload 6, 2) := by decide +kernel
theorem dX5_joinBy_53 : decode cX5_joinBy 53 = .ok (.iaload, 1) := by decide +kernel
theorem dX5_joinBy_54 : decode cX5_joinBy 54 = .ok (.iadd, 1) := by decide +kernel
theorem dX5_joinBy_55 : decode cX5_joinBy 55 = .ok (.iastore, 1) := by decide +kernel
theorem dX5_joinBy_56 : decode cX5_joinBy 56 = .ok (.aload_n 1, 1) := by decide +kernel
theorem dX5_joinBy_57 : decode cX5_joinBy 57 = .ok (.getfield 73, 3) := by decide +kernel
theorem dX5_joinBy_60 : decode cX5_joinBy 60 = .ok (.iload 6, 2) := by decide +kernel
theorem dX5_joinBy_62 : decode cX5_joinBy 62 = .ok (.iconst 0, 1) := by decide +kernel
theorem dX5_joinBy_63 : decode cX5_joinBy 63 = .ok (.iastore, 1) := by decide +kernel
theorem dX5_joinBy_64 : decode cX5_joinBy 64 = .ok (.iinc 5 1, 3) := by decide +kernel
theorem dX5_joinBy_67 : decode cX5_joinBy 67 = .ok (.goto (-55), 3) := by decide +kernel
theorem dX5_joinBy_70 : decode cX5_joinBy 70 = .ok (.iload 4, 2) := by decide +kernel
theorem dX5_joinBy_72 : decode cX5_joinBy 72 = .ok (.ifCond .eq 7, 3) := by decide +kernel
theorem dX5_joinBy_75 : decode cX5_joinBy 75 = .ok (.iconst 1, 1) := by decide +kernel
theorem dX5_joinBy_76 : decode cX5_joinBy 76 = .ok (.goto 4, 3) := by decide +kernel
theorem dX5_joinBy_79 : decode cX5_joinBy 79 = .ok (.iconst 0, 1) := by decide +kernel
theorem dX5_joinBy_80 : decode cX5_joinBy 80 = .ok (.ireturn, 1) := by decide +kernel
theorem dX10_readStep_0 : decode cX10_readStep 0 = .ok (.aload_n 0, 1) := by decide +kernel
theorem dX10_readStep_1 : decode cX10_readStep 1 = .ok (.getfield 9, 3) := by decide +kernel
theorem dX10_readStep_4 : decode cX10_readStep 4 = .ok (.invokevirtual 72, 3) := by decide +kernel
theorem dX10_readStep_7 : decode cX10_readStep 7 = .ok (.istore_n 2, 1) := by decide +kernel
theorem dX10_readStep_8 : decode cX10_readStep 8 = .ok (.aload_n 0, 1) := by decide +kernel
theorem dX10_readStep_9 : decode cX10_readStep 9 = .ok (.getfield 9, 3) := by decide +kernel
theorem dX10_readStep_12 : decode cX10_readStep 12 = .ok (.ldc 76, 2) := by decide +kernel
theorem dX10_readStep_14 : decode cX10_readStep 14 = .ok (.invokevirtual 78, 3) := by decide +kernel
theorem dX10_readStep_17 : decode cX10_readStep 17 = .ok (.istore_n 3, 1) := by decide +kernel
theorem dX10_readStep_18 : decode cX10_readStep 18 = .ok (.iload_n 3, 1) := by decide +kernel
theorem dX10_readStep_19 : decode cX10_readStep 19 = .ok (.iconst (-1), 1) := by decide +kernel
theorem dX10_readStep_20 : decode cX10_readStep 20 = .ok (.if_icmp .ne 5, 3) := by decide +kernel
theorem dX10_readStep_23 : decode cX10_readStep 23 = .ok (.iconst 0, 1) := by decide +kernel
theorem dX10_readStep_24 : decode cX10_readStep 24 = .ok (.ireturn, 1) := by decide +kernel
theorem dX10_readStep_25 : decode cX10_readStep 25 = .ok (.aload_n 0, 1) := by decide +kernel
theorem dX10_readStep_26 : decode cX10_readStep 26 = .ok (.getfield 39, 3) := by decide +kernel
theorem dX10_readStep_29 : decode cX10_readStep 29 = .ok (.aload_n 0, 1) := by decide +kernel
theorem dX10_readStep_30 : decode cX10_readStep 30 = .ok (.getfield 23, 3) := by decide +kernel
theorem dX10_readStep_33 : decode cX10_readStep 33 = .ok (.arraylength, 1) := by decide +kernel
theorem dX10_readStep_34 : decode cX10_readStep 34 = .ok (.if_icmp .ge 15, 3) := by decide +kernel
theorem dX10_readStep_37 : decode cX10_readStep 37 = .ok (.iload_n 3, 1) := by decide +kernel
theorem dX10_readStep_38 : decode cX10_readStep 38 = .ok (.bipush 6, 2) := by decide +kernel
theorem dX10_readStep_40 : decode cX10_readStep 40 = .ok (.if_icmp .ne 19, 3) := by decide +kernel
theorem dX10_readStep_43 : decode cX10_readStep 43 = .ok (.iload_n 1, 1) := by decide +kernel
theorem dX10_readStep_44 : decode cX10_readStep 44 = .ok (.bipush 6, 2) := by decide +kernel
theorem dX10_readStep_46 : decode cX10_readStep 46 = .ok (.if_icmp .lt 13, 3) := by decide +kernel
theorem dX10_readStep_49 : decode cX10_readStep 49 = .ok (.aload_n 0, 1) := by decide +kernel
theorem dX10_readStep_50 : decode cX10_readStep 50 = .ok (.getfield 9, 3) := by decide +kernel
theorem dX10_readStep_53 : decode cX10_readStep 53 = .ok (.iconst 3, 1) := by decide +kernel
theorem dX10_readStep_54 : decode cX10_readStep 54 = .ok (.iload_n 2, 1) := by decide +kernel
theorem dX10_readStep_55 : decode cX10_readStep 55 = .ok (.invokevirtual 82, 3) := by decide +kernel
theorem dX10_readStep_58 : decode cX10_readStep 58 = .ok (.ireturn, 1) := by decide +kernel
theorem dX10_readStep_59 : decode cX10_readStep 59 = .ok (.aload_n 0, 1) := by decide +kernel
theorem dX10_readStep_60 : decode cX10_readStep 60 = .ok (.getfield 39, 3) := by decide +kernel
theorem dX10_readStep_63 : decode cX10_readStep 63 = .ok (.istore 4, 2) := by decide +kernel
theorem dX10_readStep_65 : decode cX10_readStep 65 = .ok (.aload_n 0, 1) := by decide +kernel
theorem dX10_readStep_66 : decode cX10_readStep 66 = .ok (.dup, 1) := by decide +kernel
theorem dX10_readStep_67 : decode cX10_readStep 67 = .ok (.getfield 39, 3) := by decide +kernel
theorem dX10_readStep_70 : decode cX10_readStep 70 = .ok (.iconst 1, 1) := by decide +kernel
theorem dX10_readStep_71 : decode cX10_readStep 71 = .ok (.iadd, 1) := by decide +kernel
theorem dX10_readStep_72 : decode cX10_readStep 72 = .ok (.putfield 39, 3) := by decide +kernel
theorem dX10_readStep_75 : decode cX10_readStep 75 = .ok (.aload_n 0, 1) := by decide +kernel
theorem dX10_readStep_76 : decode cX10_readStep 76 = .ok (.getfield 23, 3) := by decide +kernel
theorem dX10_readStep_79 : decode cX10_readStep 79 = .ok (.iload 4, 2) := by decide +kernel
theorem dX10_readStep_81 : decode cX10_readStep 81 = .ok (.iload_n 3, 1) := by decide +kernel
theorem dX10_readStep_82 : decode cX10_readStep 82 = .ok (.iastore, 1) := by decide +kernel
theorem dX10_readStep_83 : decode cX10_readStep 83 = .ok (.iload_n 3, 1) := by decide +kernel
theorem dX10_readStep_84 : decode cX10_readStep 84 = .ok (.bipush 6, 2) := by decide +kernel
theorem dX10_readStep_86 : decode cX10_readStep 86 = .ok (.if_icmp .ne 85, 3) := by decide +kernel
theorem dX10_readStep_89 : decode cX10_readStep 89 = .ok (.aload_n 0, 1) := by decide +kernel
theorem dX10_readStep_90 : decode cX10_readStep 90 = .ok (.getfield 27, 3) := by decide +kernel
theorem dX10_readStep_93 : decode cX10_readStep 93 = .ok (.iload 4, 2) := by decide +kernel
theorem dX10_readStep_95 : decode cX10_readStep 95 = .ok (.aload_n 0, 1) := by decide +kernel
theorem dX10_readStep_96 : decode cX10_readStep 96 = .ok (.getfield 9, 3) := by decide +kernel
theorem dX10_readStep_99 : decode cX10_readStep 99 = .ok (.iconst 0, 1) := by decide +kernel
theorem dX10_readStep_100 : decode cX10_readStep 100 = .ok (.bipush 40, 2) := by decide +kernel
theorem dX10_readStep_102 : decode cX10_readStep 102 = .ok (.invokevirtual 86, 3) := by decide +kernel
theorem dX10_readStep_105 : decode cX10_readStep 105 = .ok (.iastore, 1) := by decide +kernel
theorem dX10_readStep_106 : decode cX10_readStep 106 = .ok (.aload_n 0, 1) := by decide +kernel
theorem dX10_readStep_107 : decode cX10_readStep 107 = .ok (.getfield 9, 3) := by decide +kernel
theorem dX10_readStep_110 : decode cX10_readStep 110 = .ok (.invokevirtual 90, 3) := by decide +kernel
theorem dX10_readStep_113 : decode cX10_readStep 113 = .ok (.ifCond .eq 41, 3) := by decide +kernel
theorem dX10_readStep_116 : decode cX10_readStep 116 = .ok (.aload_n 0, 1) := by decide +kernel
theorem dX10_readStep_117 : decode cX10_readStep 117 = .ok (.getfield 9, 3) := by decide +kernel
theorem dX10_readStep_120 : decode cX10_readStep 120 = .ok (.bipush 91, 2) := by decide +kernel
theorem dX10_readStep_122 : decode cX10_readStep 122 = .ok (.invokevirtual 69, 3) := by decide +kernel
theorem dX10_readStep_125 : decode cX10_readStep 125 = .ok (.ifCond .eq 29, 3) := by decide +kernel
theorem dX10_readStep_128 : decode cX10_readStep 128 = .ok (.aload_n 0, 1) := by decide +kernel
theorem dX10_readStep_129 : decode cX10_readStep 129 = .ok (.iload_n 1, 1) := by decide +kernel
theorem dX10_readStep_130 : decode cX10_readStep 130 = .ok (.iconst 1, 1) := by decide +kernel
theorem dX10_readStep_131 : decode cX10_readStep 131 = .ok (.iadd, 1) := by decide +kernel
theorem dX10_readStep_132 : decode cX10_readStep 132 = .ok (.invokevirtual 52, 3) := by decide +kernel
theorem dX10_readStep_135 : decode cX10_readStep 135 = .ok (.ifCond .eq 19, 3) := by decide +kernel
theorem dX10_readStep_138 : decode cX10_readStep 138 = .ok (.aload_n 0, 1) := by decide +kernel
theorem dX10_readStep_139 : decode cX10_readStep 139 = .ok (.getfield 9, 3) := by decide +kernel
theorem dX10_readStep_142 : decode cX10_readStep 142 = .ok (.bipush 93, 2) := by decide +kernel
theorem dX10_readStep_144 : decode cX10_readStep 144 = .ok (.invokevirtual 69, 3) := by decide +kernel
theorem dX10_readStep_147 : decode cX10_readStep 147 = .ok (.ifCond .eq 7, 3) := by decide +kernel
theorem dX10_readStep_150 : decode cX10_readStep 150 = .ok (.iconst 1, 1) := by decide +kernel
theorem dX10_readStep_151 : decode cX10_readStep 151 = .ok (.goto 4, 3) := by decide +kernel
theorem dX10_readStep_154 : decode cX10_readStep 154 = .ok (.iconst 0, 1) := by decide +kernel
theorem dX10_readStep_155 : decode cX10_readStep 155 = .ok (.istore 5, 2) := by decide +kernel
theorem dX10_readStep_157 : decode cX10_readStep 157 = .ok (.aload_n 0, 1) := by decide +kernel
theorem dX10_readStep_158 : decode cX10_readStep 158 = .ok (.getfield 36, 3) := by decide +kernel
theorem dX10_readStep_161 : decode cX10_readStep 161 = .ok (.iload 4, 2) := by decide +kernel
theorem dX10_readStep_163 : decode cX10_readStep 163 = .ok (.aload_n 0, 1) := by decide +kernel
theorem dX10_readStep_164 : decode cX10_readStep 164 = .ok (.getfield 39, 3) := by decide +kernel
theorem dX10_readStep_167 : decode cX10_readStep 167 = .ok (.iastore, 1) := by decide +kernel
theorem dX10_readStep_168 : decode cX10_readStep 168 = .ok (.iload 5, 2) := by decide +kernel
theorem dX10_readStep_170 : decode cX10_readStep 170 = .ok (.ireturn, 1) := by decide +kernel
theorem dX10_readStep_171 : decode cX10_readStep 171 = .ok (.iload_n 3, 1) := by decide +kernel
theorem dX10_readStep_172 : decode cX10_readStep 172 = .ok (.iconst 5, 1) := by decide +kernel
theorem dX10_readStep_173 : decode cX10_readStep 173 = .ok (.if_icmp .eq 10, 3) := by decide +kernel
theorem dX10_readStep_176 : decode cX10_readStep 176 = .ok (.aload_n 0, 1) := by decide +kernel
theorem dX10_readStep_177 : decode cX10_readStep 177 = .ok (.iload 4, 2) := by decide +kernel
theorem dX10_readStep_179 : decode cX10_readStep 179 = .ok (.iload_n 3, 1) := by decide +kernel
theorem dX10_readStep_180 : decode cX10_readStep 180 = .ok (.invokevirtual 93, 3) := by decide +kernel
theorem dX10_readStep_183 : decode cX10_readStep 183 = .ok (.aload_n 0, 1) := by decide +kernel
theorem dX10_readStep_184 : decode cX10_readStep 184 = .ok (.getfield 9, 3) := by decide +kernel
theorem dX10_readStep_187 : decode cX10_readStep 187 = .ok (.invokevirtual 90, 3) := by decide +kernel
theorem dX10_readStep_190 : decode cX10_readStep 190 = .ok (.ireturn, 1) := by decide +kernel
theorem dX6_gather_0 : decode cX6_gather 0 = .ok (.aload_n 0, 1) := by decide +kernel
theorem dX6_gather_1 : decode cX6_gather 1 = .ok (.iconst 0, 1) := by decide +kernel
theorem dX6_gather_2 : decode cX6_gather 2 = .ok (.putfield 39, 3) := by decide +kernel
theorem dX6_gather_5 : decode cX6_gather 5 = .ok (.aload_n 0, 1) := by decide +kernel
theorem dX6_gather_6 : decode cX6_gather 6 = .ok (.iconst (-1), 1) := by decide +kernel
theorem dX6_gather_7 : decode cX6_gather 7 = .ok (.putfield 43, 3) := by decide +kernel
theorem dX6_gather_10 : decode cX6_gather 10 = .ok (.iconst 0, 1) := by decide +kernel
theorem dX6_gather_11 : decode cX6_gather 11 = .ok (.istore_n 2, 1) := by decide +kernel
theorem dX6_gather_12 : decode cX6_gather 12 = .ok (.iload_n 2, 1) := by decide +kernel
theorem dX6_gather_13 : decode cX6_gather 13 = .ok (.aload_n 0, 1) := by decide +kernel
theorem dX6_gather_14 : decode cX6_gather 14 = .ok (.getfield 9, 3) := by decide +kernel
theorem dX6_gather_17 : decode cX6_gather 17 = .ok (.getfield 46, 3) := by decide +kernel
theorem dX6_gather_20 : decode cX6_gather 20 = .ok (.if_icmp .ge 83, 3) := by decide +kernel
theorem dX6_gather_23 : decode cX6_gather 23 = .ok (.iconst 0, 1) := by decide +kernel
theorem dX6_gather_24 : decode cX6_gather 24 = .ok (.istore_n 3, 1) := by decide +kernel
theorem dX6_gather_25 : decode cX6_gather 25 = .ok (.iload_n 3, 1) := by decide +kernel
theorem dX6_gather_26 : decode cX6_gather 26 = .ok (.aload_n 0, 1) := by decide +kernel
theorem dX6_gather_27 : decode cX6_gather 27 = .ok (.getfield 9, 3) := by decide +kernel
theorem dX6_gather_30 : decode cX6_gather 30 = .ok (.getfield 51, 3) := by decide +kernel
theorem dX6_gather_33 : decode cX6_gather 33 = .ok (.if_icmp .ge 64, 3) := by decide +kernel
theorem dX6_gather_36 : decode cX6_gather 36 = .ok (.aload_n 0, 1) := by decide +kernel
theorem dX6_gather_37 : decode cX6_gather 37 = .ok (.getfield 9, 3) := by decide +kernel
theorem dX6_gather_40 : decode cX6_gather 40 = .ok (.iload_n 3, 1) := by decide +kernel
theorem dX6_gather_41 : decode cX6_gather 41 = .ok (.invokevirtual 54, 3) := by decide +kernel
theorem dX6_gather_44 : decode cX6_gather 44 = .ok (.ifCond .eq 47, 3) := by decide +kernel
theorem dX6_gather_47 : decode cX6_gather 47 = .ok (.aload_n 0, 1) := by decide +kernel
theorem dX6_gather_48 : decode cX6_gather 48 = .ok (.aload_n 1, 1) := by decide +kernel
theorem dX6_gather_49 : decode cX6_gather 49 = .ok (.iload_n 2, 1) := by decide +kernel
theorem dX6_gather_50 : decode cX6_gather 50 = .ok (.iload_n 3, 1) := by decide +kernel
theorem dX6_gather_51 : decode cX6_gather 51 = .ok (.invokevirtual 58, 3) := by decide +kernel
theorem dX6_gather_54 : decode cX6_gather 54 = .ok (.ifCond .eq 37, 3) := by decide +kernel
theorem dX6_gather_57 : decode cX6_gather 57 = .ok (.aload_n 0, 1) := by decide +kernel
theorem dX6_gather_58 : decode cX6_gather 58 = .ok (.aload_n 0, 1) := by decide +kernel
theorem dX6_gather_59 : decode cX6_gather 59 = .ok (.getfield 39, 3) := by decide +kernel
theorem dX6_gather_62 : decode cX6_gather 62 = .ok (.ifCond .ne 12, 3) := by decide +kernel
theorem dX6_gather_65 : decode cX6_gather 65 = .ok (.bipush 10, 2) := by decide +kernel
theorem dX6_gather_67 : decode cX6_gather 67 = .ok (.iload_n 2, 1) := by decide +kernel
theorem dX6_gather_68 : decode cX6_gather 68 = .ok (.imul, 1) := by decide +kernel
theorem dX6_gather_69 : decode cX6_gather 69 = .ok (.iload_n 3, 1) := by decide +kernel
theorem dX6_gather_70 : decode cX6_gather 70 = .ok (.iadd, 1) := by decide +kernel
theorem dX6_gather_71 : decode cX6_gather 71 = .ok (.goto 7, 3) := by decide +kernel
theorem dX6_gather_74 : decode cX6_gather 74 = .ok (.aload_n 0, 1) := by decide +kernel
theorem dX6_gather_75 : decode cX6_gather 75 = .ok (.getfield 43, 3) := by decide +kernel
theorem dX6_gather_78 : decode cX6_gather 78 = .ok (.putfield 43, 3) := by decide +kernel
theorem dX6_gather_81 : decode cX6_gather 81 = .ok (.aload_n 0, 1) := by decide +kernel
theorem dX6_gather_82 : decode cX6_gather 82 = .ok (.dup, 1) := by decide +kernel
theorem dX6_gather_83 : decode cX6_gather 83 = .ok (.getfield 39, 3) := by decide +kernel
theorem dX6_gather_86 : decode cX6_gather 86 = .ok (.iconst 1, 1) := by decide +kernel
theorem dX6_gather_87 : decode cX6_gather 87 = .ok (.iadd, 1) := by decide +kernel
theorem dX6_gather_88 : decode cX6_gather 88 = .ok (.putfield 39, 3) := by decide +kernel
theorem dX6_gather_91 : decode cX6_gather 91 = .ok (.iinc 3 1, 3) := by decide +kernel
theorem dX6_gather_94 : decode cX6_gather 94 = .ok (.goto (-69), 3) := by decide +kernel
theorem dX6_gather_97 : decode cX6_gather 97 = .ok (.iinc 2 1, 3) := by decide +kernel
theorem dX6_gather_100 : decode cX6_gather 100 = .ok (.goto (-88), 3) := by decide +kernel
theorem dX6_gather_103 : decode cX6_gather 103 = .ok (.return_, 1) := by decide +kernel
theorem dX5_sumOfTurns_0 : decode cX5_sumOfTurns 0 = .ok (.iconst 0, 1) := by decide +kernel
theorem dX5_sumOfTurns_1 : decode cX5_sumOfTurns 1 = .ok (.istore_n 2, 1) := by decide +kernel
theorem dX5_sumOfTurns_2 : decode cX5_sumOfTurns 2 = .ok (.iconst 0, 1) := by decide +kernel
theorem dX5_sumOfTurns_3 : decode cX5_sumOfTurns 3 = .ok (.istore_n 3, 1) := by decide +kernel
theorem dX5_sumOfTurns_4 : decode cX5_sumOfTurns 4 = .ok (.iload_n 3, 1) := by decide +kernel
theorem dX5_sumOfTurns_5 : decode cX5_sumOfTurns 5 = .ok (.aload_n 0, 1) := by decide +kernel
theorem dX5_sumOfTurns_6 : decode cX5_sumOfTurns 6 = .ok (.getfield 9, 3) := by decide +kernel
theorem dX5_sumOfTurns_9 : decode cX5_sumOfTurns 9 = .ok (.getfield 83, 3) := by decide +kernel
theorem dX5_sumOfTurns_12 : decode cX5_sumOfTurns 12 = .ok (.if_icmp .ge 40, 3) := by decide +kernel
theorem dX5_sumOfTurns_15 : decode cX5_sumOfTurns 15 = .ok (.iload_n 1, 1) := by decide +kernel
theorem dX5_sumOfTurns_16 : decode cX5_sumOfTurns 16 = .ok (.iload_n 3, 1) := by decide +kernel
theorem dX5_sumOfTurns_17 : decode cX5_sumOfTurns 17 = .ok (.ishr, 1) := by decide +kernel
theorem dX5_sumOfTurns_18 : decode cX5_sumOfTurns 18 = .ok (.iconst 1, 1) := by decide +kernel
theorem dX5_sumOfTurns_19 : decode cX5_sumOfTurns 19 = .ok (.iand, 1) := by decide +kernel
theorem dX5_sumOfTurns_20 : decode cX5_sumOfTurns 20 = .ok (.iconst 1, 1) := by decide +kernel
theorem dX5_sumOfTurns_21 : decode cX5_sumOfTurns 21 = .ok (.if_icmp .ne 25, 3) := by decide +kernel
theorem dX5_sumOfTurns_24 : decode cX5_sumOfTurns 24 = .ok (.aload_n 0, 1) := by decide +kernel
theorem dX5_sumOfTurns_25 : decode cX5_sumOfTurns 25 = .ok (.getfield 9, 3) := by decide +kernel
theorem dX5_sumOfTurns_28 : decode cX5_sumOfTurns 28 = .ok (.iload_n 3, 1) := by decide +kernel
theorem dX5_sumOfTurns_29 : decode cX5_sumOfTurns 29 = .ok (.invokevirtual 62, 3) := by decide +kernel
theorem dX5_sumOfTurns_32 : decode cX5_sumOfTurns 32 = .ok (.ifCond .ne 5, 3) := by decide +kernel
theorem dX5_sumOfTurns_35 : decode cX5_sumOfTurns 35 = .ok (.iconst (-1), 1) := by decide +kernel
theorem dX5_sumOfTurns_36 : decode cX5_sumOfTurns 36 = .ok (.ireturn, 1) := by decide +kernel
theorem dX5_sumOfTurns_37 : decode cX5_sumOfTurns 37 = .ok (.iload_n 2, 1) := by decide +kernel
theorem dX5_sumOfTurns_38 : decode cX5_sumOfTurns 38 = .ok (.aload_n 0, 1) := by decide +kernel
theorem dX5_sumOfTurns_39 : decode cX5_sumOfTurns 39 = .ok (.getfield 28, 3) := by decide +kernel
theorem dX5_sumOfTurns_42 : decode cX5_sumOfTurns 42 = .ok (.iload_n 3, 1) := by decide +kernel
theorem dX5_sumOfTurns_43 : decode cX5_sumOfTurns 43 = .ok (.iaload, 1) := by decide +kernel
theorem dX5_sumOfTurns_44 : decode cX5_sumOfTurns 44 = .ok (.iadd, 1) := by decide +kernel
theorem dX5_sumOfTurns_45 : decode cX5_sumOfTurns 45 = .ok (.istore_n 2, 1) := by decide +kernel
theorem dX5_sumOfTurns_46 : decode cX5_sumOfTurns 46 = .ok (.iinc 3 1, 3) := by decide +kernel
theorem dX5_sumOfTurns_49 : decode cX5_sumOfTurns 49 = .ok (.goto (-45), 3) := by decide +kernel
theorem dX5_sumOfTurns_52 : decode cX5_sumOfTurns 52 = .ok (.iload_n 2, 1) := by decide +kernel
theorem dX5_sumOfTurns_53 : decode cX5_sumOfTurns 53 = .ok (.ireturn, 1) := by decide +kernel
theorem dX5_turnByAllGlasses_0 : decode cX5_turnByAllGlasses 0 = .ok (.iconst 0, 1) := by decide +kernel
theorem dX5_turnByAllGlasses_1 : decode cX5_turnByAllGlasses 1 = .ok (.istore 4, 2) := by decide +kernel
theorem dX5_turnByAllGlasses_3 : decode cX5_turnByAllGlasses 3 = .ok (.iload 4, 2) := by decide +kernel
theorem dX5_turnByAllGlasses_5 : decode cX5_turnByAllGlasses 5 = .ok (.aload_n 0, 1) := by decide +kernel
theorem dX5_turnByAllGlasses_6 : decode cX5_turnByAllGlasses 6 = .ok (.getfield 9, 3) := by decide +kernel
theorem dX5_turnByAllGlasses_9 : decode cX5_turnByAllGlasses 9 = .ok (.getfield 83, 3) := by decide +kernel
theorem dX5_turnByAllGlasses_12 : decode cX5_turnByAllGlasses 12 = .ok (.if_icmp .ge 36, 3) := by decide +kernel
theorem dX5_turnByAllGlasses_15 : decode cX5_turnByAllGlasses 15 = .ok (.aload_n 0, 1) := by decide +kernel
theorem dX5_turnByAllGlasses_16 : decode cX5_turnByAllGlasses 16 = .ok (.getfield 28, 3) := by decide +kernel
theorem dX5_turnByAllGlasses_19 : decode cX5_turnByAllGlasses 19 = .ok (.iload 4, 2) := by decide +kernel
theorem dX5_turnByAllGlasses_21 : decode cX5_turnByAllGlasses 21 = .ok (.aload_n 0, 1) := by decide +kernel
theorem dX5_turnByAllGlasses_22 : decode cX5_turnByAllGlasses 22 = .ok (.aload_n 1, 1) := by decide +kernel
theorem dX5_turnByAllGlasses_23 : decode cX5_turnByAllGlasses 23 = .ok (.iload_n 2, 1) := by decide +kernel
theorem dX5_turnByAllGlasses_24 : decode cX5_turnByAllGlasses 24 = .ok (.iload_n 3, 1) := by decide +kernel
theorem dX5_turnByAllGlasses_25 : decode cX5_turnByAllGlasses 25 = .ok (.iload 4, 2) := by decide +kernel
theorem dX5_turnByAllGlasses_27 : decode cX5_turnByAllGlasses 27 = .ok (.aload_n 1, 1) := by decide +kernel
theorem dX5_turnByAllGlasses_28 : decode cX5_turnByAllGlasses 28 = .ok (.getfield 66, 3) := by decide +kernel
theorem dX5_turnByAllGlasses_31 : decode cX5_turnByAllGlasses 31 = .ok (.iload_n 2, 1) := by decide +kernel
theorem dX5_turnByAllGlasses_32 : decode cX5_turnByAllGlasses 32 = .ok (.bipush 7, 2) := by decide +kernel
theorem dX5_turnByAllGlasses_34 : decode cX5_turnByAllGlasses 34 = .ok (.imul, 1) := by decide +kernel
theorem dX5_turnByAllGlasses_35 : decode cX5_turnByAllGlasses 35 = .ok (.iload_n 3, 1) := by decide +kernel
theorem dX5_turnByAllGlasses_36 : decode cX5_turnByAllGlasses 36 = .ok (.iadd, 1) := by decide +kernel
theorem dX5_turnByAllGlasses_37 : decode cX5_turnByAllGlasses 37 = .ok (.iaload, 1) := by decide +kernel
theorem dX5_turnByAllGlasses_38 : decode cX5_turnByAllGlasses 38 = .ok (.invokevirtual 69, 3) := by decide +kernel
theorem dX5_turnByAllGlasses_41 : decode cX5_turnByAllGlasses 41 = .ok (.iastore, 1) := by decide +kernel
theorem dX5_turnByAllGlasses_42 : decode cX5_turnByAllGlasses 42 = .ok (.iinc 4 1, 3) := by decide +kernel
theorem dX5_turnByAllGlasses_45 : decode cX5_turnByAllGlasses 45 = .ok (.goto (-42), 3) := by decide +kernel
theorem dX5_turnByAllGlasses_48 : decode cX5_turnByAllGlasses 48 = .ok (.return_, 1) := by decide +kernel
theorem dX10_read_0 : decode cX10_read 0 = .ok (.aload_n 0, 1) := by decide +kernel
theorem dX10_read_1 : decode cX10_read 1 = .ok (.iconst 0, 1) := by decide +kernel
theorem dX10_read_2 : decode cX10_read 2 = .ok (.putfield 39, 3) := by decide +kernel
theorem dX10_read_5 : decode cX10_read 5 = .ok (.aload_n 0, 1) := by decide +kernel
theorem dX10_read_6 : decode cX10_read 6 = .ok (.iconst 0, 1) := by decide +kernel
theorem dX10_read_7 : decode cX10_read 7 = .ok (.putfield 43, 3) := by decide +kernel
theorem dX10_read_10 : decode cX10_read 10 = .ok (.aload_n 0, 1) := by decide +kernel
theorem dX10_read_11 : decode cX10_read 11 = .ok (.iconst 0, 1) := by decide +kernel
theorem dX10_read_12 : decode cX10_read 12 = .ok (.putfield 46, 3) := by decide +kernel
theorem dX10_read_15 : decode cX10_read 15 = .ok (.aload_n 0, 1) := by decide +kernel
theorem dX10_read_16 : decode cX10_read 16 = .ok (.iconst 0, 1) := by decide +kernel
theorem dX10_read_17 : decode cX10_read 17 = .ok (.putfield 49, 3) := by decide +kernel
theorem dX10_read_20 : decode cX10_read 20 = .ok (.aload_n 0, 1) := by decide +kernel
theorem dX10_read_21 : decode cX10_read 21 = .ok (.iconst 0, 1) := by decide +kernel
theorem dX10_read_22 : decode cX10_read 22 = .ok (.invokevirtual 52, 3) := by decide +kernel
theorem dX10_read_25 : decode cX10_read 25 = .ok (.ireturn, 1) := by decide +kernel
theorem dX5_partBy_0 : decode cX5_partBy 0 = .ok (.aload_n 0, 1) := by decide +kernel
theorem dX5_partBy_1 : decode cX5_partBy 1 = .ok (.getfield 9, 3) := by decide +kernel
theorem dX5_partBy_4 : decode cX5_partBy 4 = .ok (.iload_n 3, 1) := by decide +kernel
theorem dX5_partBy_5 : decode cX5_partBy 5 = .ok (.invokevirtual 62, 3) := by decide +kernel
theorem dX5_partBy_8 : decode cX5_partBy 8 = .ok (.ifCond .eq 11, 3) := by decide +kernel
theorem dX5_partBy_11 : decode cX5_partBy 11 = .ok (.aload_n 1, 1) := by decide +kernel
theorem dX5_partBy_12 : decode cX5_partBy 12 = .ok (.iload_n 2, 1) := by decide +kernel
theorem dX5_partBy_13 : decode cX5_partBy 13 = .ok (.invokevirtual 36, 3) := by decide +kernel
theorem dX5_partBy_16 : decode cX5_partBy 16 = .ok (.ifCond .ne 5, 3) := by decide +kernel
theorem dX5_partBy_19 : decode cX5_partBy 19 = .ok (.iconst 0, 1) := by decide +kernel
theorem dX5_partBy_20 : decode cX5_partBy 20 = .ok (.ireturn, 1) := by decide +kernel
theorem dX5_partBy_21 : decode cX5_partBy 21 = .ok (.iload_n 2, 1) := by decide +kernel
theorem dX5_partBy_22 : decode cX5_partBy 22 = .ok (.bipush 7, 2) := by decide +kernel
theorem dX5_partBy_24 : decode cX5_partBy 24 = .ok (.imul, 1) := by decide +kernel
theorem dX5_partBy_25 : decode cX5_partBy 25 = .ok (.istore 4, 2) := by decide +kernel
theorem dX5_partBy_27 : decode cX5_partBy 27 = .ok (.iconst 0, 1) := by decide +kernel
theorem dX5_partBy_28 : decode cX5_partBy 28 = .ok (.istore 5, 2) := by decide +kernel
theorem dX5_partBy_30 : decode cX5_partBy 30 = .ok (.iload 5, 2) := by decide +kernel
theorem dX5_partBy_32 : decode cX5_partBy 32 = .ok (.bipush 7, 2) := by decide +kernel
theorem dX5_partBy_34 : decode cX5_partBy 34 = .ok (.if_icmp .ge 35, 3) := by decide +kernel
theorem dX5_partBy_37 : decode cX5_partBy 37 = .ok (.aload_n 0, 1) := by decide +kernel
theorem dX5_partBy_38 : decode cX5_partBy 38 = .ok (.getfield 25, 3) := by decide +kernel
theorem dX5_partBy_41 : decode cX5_partBy 41 = .ok (.iload 5, 2) := by decide +kernel
theorem dX5_partBy_43 : decode cX5_partBy 43 = .ok (.aload_n 0, 1) := by decide +kernel
theorem dX5_partBy_44 : decode cX5_partBy 44 = .ok (.aload_n 1, 1) := by decide +kernel
theorem dX5_partBy_45 : decode cX5_partBy 45 = .ok (.iload_n 2, 1) := by decide +kernel
theorem dX5_partBy_46 : decode cX5_partBy 46 = .ok (.iload 5, 2) := by decide +kernel
theorem dX5_partBy_48 : decode cX5_partBy 48 = .ok (.iload_n 3, 1) := by decide +kernel
theorem dX5_partBy_49 : decode cX5_partBy 49 = .ok (.aload_n 1, 1) := by decide +kernel
theorem dX5_partBy_50 : decode cX5_partBy 50 = .ok (.getfield 66, 3) := by decide +kernel
theorem dX5_partBy_53 : decode cX5_partBy 53 = .ok (.iload 4, 2) := by decide +kernel
theorem dX5_partBy_55 : decode cX5_partBy 55 = .ok (.iload 5, 2) := by decide +kernel
theorem dX5_partBy_57 : decode cX5_partBy 57 = .ok (.iadd, 1) := by decide +kernel
theorem dX5_partBy_58 : decode cX5_partBy 58 = .ok (.iaload, 1) := by decide +kernel
theorem dX5_partBy_59 : decode cX5_partBy 59 = .ok (.invokevirtual 69, 3) := by decide +kernel
theorem dX5_partBy_62 : decode cX5_partBy 62 = .ok (.iastore, 1) := by decide +kernel
theorem dX5_partBy_63 : decode cX5_partBy 63 = .ok (.iinc 5 1, 3) := by decide +kernel
theorem dX5_partBy_66 : decode cX5_partBy 66 = .ok (.goto (-36), 3) := by decide +kernel
theorem dX5_partBy_69 : decode cX5_partBy 69 = .ok (.iconst 0, 1) := by decide +kernel
theorem dX5_partBy_70 : decode cX5_partBy 70 = .ok (.istore 5, 2) := by decide +kernel
theorem dX5_partBy_72 : decode cX5_partBy 72 = .ok (.iload 5, 2) := by decide +kernel
theorem dX5_partBy_74 : decode cX5_partBy 74 = .ok (.bipush 7, 2) := by decide +kernel
theorem dX5_partBy_76 : decode cX5_partBy 76 = .ok (.if_icmp .ge 65, 3) := by decide +kernel
theorem dX5_partBy_79 : decode cX5_partBy 79 = .ok (.iload 4, 2) := by decide +kernel
theorem dX5_partBy_81 : decode cX5_partBy 81 = .ok (.iload 5, 2) := by decide +kernel
theorem dX5_partBy_83 : decode cX5_partBy 83 = .ok (.iadd, 1) := by decide +kernel
theorem dX5_partBy_84 : decode cX5_partBy 84 = .ok (.istore 6, 2) := by decide +kernel
theorem dX5_partBy_86 : decode cX5_partBy 86 = .ok (.aload_n 1, 1) := by decide +kernel
theorem dX5_partBy_87 : decode cX5_partBy 87 = .ok (.getfield 66, 3) := by decide +kernel
theorem dX5_partBy_90 : decode cX5_partBy 90 = .ok (.iload 6, 2) := by decide +kernel
theorem dX5_partBy_92 : decode cX5_partBy 92 = .ok (.iaload, 1) := by decide +kernel
theorem dX5_partBy_93 : decode cX5_partBy 93 = .ok (.ifCond .le 42, 3) := by decide +kernel
theorem dX5_partBy_96 : decode cX5_partBy 96 = .ok (.aload_n 1, 1) := by decide +kernel
theorem dX5_partBy_97 : decode cX5_partBy 97 = .ok (.getfield 73, 3) := by decide +kernel
theorem dX5_partBy_100 : decode cX5_partBy 100 = .ok (.iload 6, 2) := by decide +kernel
theorem dX5_partBy_102 : decode cX5_partBy 102 = .ok (.dup2, 1) := by decide +kernel
theorem dX5_partBy_103 : decode cX5_partBy 103 = .ok (.iaload, 1) := by decide +kernel
theorem dX5_partBy_104 : decode cX5_partBy 104 = .ok (.aload_n 1, 1) := by decide +kernel
theorem dX5_partBy_105 : decode cX5_partBy 105 = .ok (.getfield 66, 3) := by decide +kernel
theorem dX5_partBy_108 : decode cX5_partBy 108 = .ok (.iload 6, 2) := by decide +kernel
theorem dX5_partBy_110 : decode cX5_partBy 110 = .ok (.iaload, 1) := by decide +kernel
theorem dX5_partBy_111 : decode cX5_partBy 111 = .ok (.iadd, 1) := by decide +kernel
theorem dX5_partBy_112 : decode cX5_partBy 112 = .ok (.iastore, 1) := by decide +kernel
theorem dX5_partBy_113 : decode cX5_partBy 113 = .ok (.aload_n 1, 1) := by decide +kernel
theorem dX5_partBy_114 : decode cX5_partBy 114 = .ok (.getfield 76, 3) := by decide +kernel
theorem dX5_partBy_117 : decode cX5_partBy 117 = .ok (.iload 6, 2) := by decide +kernel
theorem dX5_partBy_119 : decode cX5_partBy 119 = .ok (.aload_n 0, 1) := by decide +kernel
theorem dX5_partBy_120 : decode cX5_partBy 120 = .ok (.getfield 25, 3) := by decide +kernel
theorem dX5_partBy_123 : decode cX5_partBy 123 = .ok (.iload 5, 2) := by decide +kernel
theorem dX5_partBy_125 : decode cX5_partBy 125 = .ok (.iaload, 1) := by decide +kernel
theorem dX5_partBy_126 : decode cX5_partBy 126 = .ok (.iastore, 1) := by decide +kernel
theorem dX5_partBy_127 : decode cX5_partBy 127 = .ok (.aload_n 1, 1) := by decide +kernel
theorem dX5_partBy_128 : decode cX5_partBy 128 = .ok (.getfield 66, 3) := by decide +kernel
theorem dX5_partBy_131 : decode cX5_partBy 131 = .ok (.iload 6, 2) := by decide +kernel
theorem dX5_partBy_133 : decode cX5_partBy 133 = .ok (.iconst 0, 1) := by decide +kernel
theorem dX5_partBy_134 : decode cX5_partBy 134 = .ok (.iastore, 1) := by decide +kernel
theorem dX5_partBy_135 : decode cX5_partBy 135 = .ok (.iinc 5 1, 3) := by decide +kernel
theorem dX5_partBy_138 : decode cX5_partBy 138 = .ok (.goto (-66), 3) := by decide +kernel
theorem dX5_partBy_141 : decode cX5_partBy 141 = .ok (.aload_n 1, 1) := by decide +kernel
theorem dX5_partBy_142 : decode cX5_partBy 142 = .ok (.getfield 45, 3) := by decide +kernel
theorem dX5_partBy_145 : decode cX5_partBy 145 = .ok (.iload_n 2, 1) := by decide +kernel
theorem dX5_partBy_146 : decode cX5_partBy 146 = .ok (.dup2, 1) := by decide +kernel
theorem dX5_partBy_147 : decode cX5_partBy 147 = .ok (.iaload, 1) := by decide +kernel
theorem dX5_partBy_148 : decode cX5_partBy 148 = .ok (.iconst 1, 1) := by decide +kernel
theorem dX5_partBy_149 : decode cX5_partBy 149 = .ok (.iadd, 1) := by decide +kernel
theorem dX5_partBy_150 : decode cX5_partBy 150 = .ok (.iastore, 1) := by decide +kernel
theorem dX5_partBy_151 : decode cX5_partBy 151 = .ok (.iconst 1, 1) := by decide +kernel
theorem dX5_partBy_152 : decode cX5_partBy 152 = .ok (.ireturn, 1) := by decide +kernel
theorem dX5_turnOf_0 : decode cX5_turnOf 0 = .ok (.aload_n 0, 1) := by decide +kernel
theorem dX5_turnOf_1 : decode cX5_turnOf 1 = .ok (.getfield 21, 3) := by decide +kernel
theorem dX5_turnOf_4 : decode cX5_turnOf 4 = .ok (.iconst 0, 1) := by decide +kernel
theorem dX5_turnOf_5 : decode cX5_turnOf 5 = .ok (.iload_n 3, 1) := by decide +kernel
theorem dX5_turnOf_6 : decode cX5_turnOf 6 = .ok (.iastore, 1) := by decide +kernel
theorem dX5_turnOf_7 : decode cX5_turnOf 7 = .ok (.aload_n 0, 1) := by decide +kernel
theorem dX5_turnOf_8 : decode cX5_turnOf 8 = .ok (.getfield 21, 3) := by decide +kernel
theorem dX5_turnOf_11 : decode cX5_turnOf 11 = .ok (.iconst 1, 1) := by decide +kernel
theorem dX5_turnOf_12 : decode cX5_turnOf 12 = .ok (.iload 5, 2) := by decide +kernel
theorem dX5_turnOf_14 : decode cX5_turnOf 14 = .ok (.iastore, 1) := by decide +kernel
theorem dX5_turnOf_15 : decode cX5_turnOf 15 = .ok (.aload_n 0, 1) := by decide +kernel
theorem dX5_turnOf_16 : decode cX5_turnOf 16 = .ok (.getfield 21, 3) := by decide +kernel
theorem dX5_turnOf_19 : decode cX5_turnOf 19 = .ok (.iconst 2, 1) := by decide +kernel
theorem dX5_turnOf_20 : decode cX5_turnOf 20 = .ok (.aload_n 0, 1) := by decide +kernel
theorem dX5_turnOf_21 : decode cX5_turnOf 21 = .ok (.getfield 9, 3) := by decide +kernel
theorem dX5_turnOf_24 : decode cX5_turnOf 24 = .ok (.getfield 31, 3) := by decide +kernel
theorem dX5_turnOf_27 : decode cX5_turnOf 27 = .ok (.iload 4, 2) := by decide +kernel
theorem dX5_turnOf_29 : decode cX5_turnOf 29 = .ok (.iaload, 1) := by decide +kernel
theorem dX5_turnOf_30 : decode cX5_turnOf 30 = .ok (.iastore, 1) := by decide +kernel
theorem dX5_turnOf_31 : decode cX5_turnOf 31 = .ok (.aload_n 0, 1) := by decide +kernel
theorem dX5_turnOf_32 : decode cX5_turnOf 32 = .ok (.getfield 21, 3) := by decide +kernel
theorem dX5_turnOf_35 : decode cX5_turnOf 35 = .ok (.iconst 3, 1) := by decide +kernel
theorem dX5_turnOf_36 : decode cX5_turnOf 36 = .ok (.aload_n 1, 1) := by decide +kernel
theorem dX5_turnOf_37 : decode cX5_turnOf 37 = .ok (.iload_n 2, 1) := by decide +kernel
theorem dX5_turnOf_38 : decode cX5_turnOf 38 = .ok (.invokevirtual 36, 3) := by decide +kernel
theorem dX5_turnOf_41 : decode cX5_turnOf 41 = .ok (.iastore, 1) := by decide +kernel
theorem dX5_turnOf_42 : decode cX5_turnOf 42 = .ok (.aload_n 0, 1) := by decide +kernel
theorem dX5_turnOf_43 : decode cX5_turnOf 43 = .ok (.getfield 21, 3) := by decide +kernel
theorem dX5_turnOf_46 : decode cX5_turnOf 46 = .ok (.iconst 4, 1) := by decide +kernel
theorem dX5_turnOf_47 : decode cX5_turnOf 47 = .ok (.aload_n 1, 1) := by decide +kernel
theorem dX5_turnOf_48 : decode cX5_turnOf 48 = .ok (.getfield 42, 3) := by decide +kernel
theorem dX5_turnOf_51 : decode cX5_turnOf 51 = .ok (.iload_n 2, 1) := by decide +kernel
theorem dX5_turnOf_52 : decode cX5_turnOf 52 = .ok (.bipush 7, 2) := by decide +kernel
theorem dX5_turnOf_54 : decode cX5_turnOf 54 = .ok (.imul, 1) := by decide +kernel
theorem dX5_turnOf_55 : decode cX5_turnOf 55 = .ok (.iload_n 3, 1) := by decide +kernel
theorem dX5_turnOf_56 : decode cX5_turnOf 56 = .ok (.iadd, 1) := by decide +kernel
theorem dX5_turnOf_57 : decode cX5_turnOf 57 = .ok (.iaload, 1) := by decide +kernel
theorem dX5_turnOf_58 : decode cX5_turnOf 58 = .ok (.iastore, 1) := by decide +kernel
theorem dX5_turnOf_59 : decode cX5_turnOf 59 = .ok (.aload_n 0, 1) := by decide +kernel
theorem dX5_turnOf_60 : decode cX5_turnOf 60 = .ok (.getfield 21, 3) := by decide +kernel
theorem dX5_turnOf_63 : decode cX5_turnOf 63 = .ok (.iconst 5, 1) := by decide +kernel
theorem dX5_turnOf_64 : decode cX5_turnOf 64 = .ok (.aload_n 1, 1) := by decide +kernel
theorem dX5_turnOf_65 : decode cX5_turnOf 65 = .ok (.getfield 45, 3) := by decide +kernel
theorem dX5_turnOf_68 : decode cX5_turnOf 68 = .ok (.iload_n 2, 1) := by decide +kernel
theorem dX5_turnOf_69 : decode cX5_turnOf 69 = .ok (.iaload, 1) := by decide +kernel
theorem dX5_turnOf_70 : decode cX5_turnOf 70 = .ok (.iastore, 1) := by decide +kernel
theorem dX5_turnOf_71 : decode cX5_turnOf 71 = .ok (.aload_n 0, 1) := by decide +kernel
theorem dX5_turnOf_72 : decode cX5_turnOf 72 = .ok (.getfield 21, 3) := by decide +kernel
theorem dX5_turnOf_75 : decode cX5_turnOf 75 = .ok (.bipush 6, 2) := by decide +kernel
theorem dX5_turnOf_77 : decode cX5_turnOf 77 = .ok (.aload_n 1, 1) := by decide +kernel
theorem dX5_turnOf_78 : decode cX5_turnOf 78 = .ok (.getfield 48, 3) := by decide +kernel
theorem dX5_turnOf_81 : decode cX5_turnOf 81 = .ok (.iastore, 1) := by decide +kernel
theorem dX5_turnOf_82 : decode cX5_turnOf 82 = .ok (.aload_n 0, 1) := by decide +kernel
theorem dX5_turnOf_83 : decode cX5_turnOf 83 = .ok (.getfield 21, 3) := by decide +kernel
theorem dX5_turnOf_86 : decode cX5_turnOf 86 = .ok (.bipush 7, 2) := by decide +kernel
theorem dX5_turnOf_88 : decode cX5_turnOf 88 = .ok (.iload_n 2, 1) := by decide +kernel
theorem dX5_turnOf_89 : decode cX5_turnOf 89 = .ok (.iastore, 1) := by decide +kernel
theorem dX5_turnOf_90 : decode cX5_turnOf 90 = .ok (.aload_n 0, 1) := by decide +kernel
theorem dX5_turnOf_91 : decode cX5_turnOf 91 = .ok (.aload_n 0, 1) := by decide +kernel
theorem dX5_turnOf_92 : decode cX5_turnOf 92 = .ok (.getfield 15, 3) := by decide +kernel
theorem dX5_turnOf_95 : decode cX5_turnOf 95 = .ok (.aload_n 0, 1) := by decide +kernel
theorem dX5_turnOf_96 : decode cX5_turnOf 96 = .ok (.getfield 21, 3) := by decide +kernel
theorem dX5_turnOf_99 : decode cX5_turnOf 99 = .ok (.invokevirtual 52, 3) := by decide +kernel
theorem dX5_turnOf_102 : decode cX5_turnOf 102 = .ok (.invokevirtual 56, 3) := by decide +kernel
theorem dX5_turnOf_105 : decode cX5_turnOf 105 = .ok (.ireturn, 1) := by decide +kernel
theorem dX9_loseByChance_0 : decode cX9_loseByChance 0 = .ok (.aload_n 0, 1) := by decide +kernel
theorem dX9_loseByChance_1 : decode cX9_loseByChance 1 = .ok (.bipush 16, 2) := by decide +kernel
theorem dX9_loseByChance_3 : decode cX9_loseByChance 3 = .ok (.invokevirtual 52, 3) := by decide +kernel
theorem dX9_loseByChance_6 : decode cX9_loseByChance 6 = .ok (.iload_n 1, 1) := by decide +kernel
theorem dX9_loseByChance_7 : decode cX9_loseByChance 7 = .ok (.if_icmp .ge 37, 3) := by decide +kernel
theorem dX9_loseByChance_10 : decode cX9_loseByChance 10 = .ok (.aload_n 0, 1) := by decide +kernel
theorem dX9_loseByChance_11 : decode cX9_loseByChance 11 = .ok (.aload_n 0, 1) := by decide +kernel
theorem dX9_loseByChance_12 : decode cX9_loseByChance 12 = .ok (.getfield 9, 3) := by decide +kernel
theorem dX9_loseByChance_15 : decode cX9_loseByChance 15 = .ok (.getfield 34, 3) := by decide +kernel
theorem dX9_loseByChance_18 : decode cX9_loseByChance 18 = .ok (.invokevirtual 52, 3) := by decide +kernel
theorem dX9_loseByChance_21 : decode cX9_loseByChance 21 = .ok (.istore_n 2, 1) := by decide +kernel
theorem dX9_loseByChance_22 : decode cX9_loseByChance 22 = .ok (.aload_n 0, 1) := by decide +kernel
theorem dX9_loseByChance_23 : decode cX9_loseByChance 23 = .ok (.bipush 7, 2) := by decide +kernel
theorem dX9_loseByChance_25 : decode cX9_loseByChance 25 = .ok (.invokevirtual 52, 3) := by decide +kernel
theorem dX9_loseByChance_28 : decode cX9_loseByChance 28 = .ok (.istore_n 3, 1) := by decide +kernel
theorem dX9_loseByChance_29 : decode cX9_loseByChance 29 = .ok (.aload_n 0, 1) := by decide +kernel
theorem dX9_loseByChance_30 : decode cX9_loseByChance 30 = .ok (.getfield 22, 3) := by decide +kernel
theorem dX9_loseByChance_33 : decode cX9_loseByChance 33 = .ok (.iload_n 2, 1) := by decide +kernel
theorem dX9_loseByChance_34 : decode cX9_loseByChance 34 = .ok (.bipush 7, 2) := by decide +kernel
theorem dX9_loseByChance_36 : decode cX9_loseByChance 36 = .ok (.imul, 1) := by decide +kernel
theorem dX9_loseByChance_37 : decode cX9_loseByChance 37 = .ok (.iload_n 3, 1) := by decide +kernel
theorem dX9_loseByChance_38 : decode cX9_loseByChance 38 = .ok (.iadd, 1) := by decide +kernel
theorem dX9_loseByChance_39 : decode cX9_loseByChance 39 = .ok (.iconst 1, 1) := by decide +kernel
theorem dX9_loseByChance_40 : decode cX9_loseByChance 40 = .ok (.invokevirtual 65, 3) := by decide +kernel
theorem dX9_loseByChance_43 : decode cX9_loseByChance 43 = .ok (.pop, 1) := by decide +kernel
theorem dX9_loseByChance_44 : decode cX9_loseByChance 44 = .ok (.return_, 1) := by decide +kernel
theorem dX6_blursBy_0 : decode cX6_blursBy 0 = .ok (.aload_n 0, 1) := by decide +kernel
theorem dX6_blursBy_1 : decode cX6_blursBy 1 = .ok (.getfield 26, 3) := by decide +kernel
theorem dX6_blursBy_4 : decode cX6_blursBy 4 = .ok (.aload_n 1, 1) := by decide +kernel
theorem dX6_blursBy_5 : decode cX6_blursBy 5 = .ok (.invokevirtual 68, 3) := by decide +kernel
theorem dX6_blursBy_8 : decode cX6_blursBy 8 = .ok (.aload_n 0, 1) := by decide +kernel
theorem dX6_blursBy_9 : decode cX6_blursBy 9 = .ok (.getfield 19, 3) := by decide +kernel
theorem dX6_blursBy_12 : decode cX6_blursBy 12 = .ok (.aload_n 0, 1) := by decide +kernel
theorem dX6_blursBy_13 : decode cX6_blursBy 13 = .ok (.getfield 26, 3) := by decide +kernel
theorem dX6_blursBy_16 : decode cX6_blursBy 16 = .ok (.iload_n 2, 1) := by decide +kernel
theorem dX6_blursBy_17 : decode cX6_blursBy 17 = .ok (.iload_n 3, 1) := by decide +kernel
theorem dX6_blursBy_18 : decode cX6_blursBy 18 = .ok (.invokevirtual 72, 3) := by decide +kernel
theorem dX6_blursBy_21 : decode cX6_blursBy 21 = .ok (.ifCond .eq 18, 3) := by decide +kernel
theorem dX6_blursBy_24 : decode cX6_blursBy 24 = .ok (.aload_n 0, 1) := by decide +kernel
theorem dX6_blursBy_25 : decode cX6_blursBy 25 = .ok (.getfield 26, 3) := by decide +kernel
theorem dX6_blursBy_28 : decode cX6_blursBy 28 = .ok (.iload_n 2, 1) := by decide +kernel
theorem dX6_blursBy_29 : decode cX6_blursBy 29 = .ok (.invokevirtual 95, 3) := by decide +kernel
theorem dX6_blursBy_32 : decode cX6_blursBy 32 = .ok (.ifCond .eq 7, 3) := by decide +kernel
theorem dX6_blursBy_35 : decode cX6_blursBy 35 = .ok (.iconst 1, 1) := by decide +kernel
theorem dX6_blursBy_36 : decode cX6_blursBy 36 = .ok (.goto 4, 3) := by decide +kernel
theorem dX6_blursBy_39 : decode cX6_blursBy 39 = .ok (.iconst 0, 1) := by decide +kernel
theorem dX6_blursBy_40 : decode cX6_blursBy 40 = .ok (.ireturn, 1) := by decide +kernel
theorem dX9_run_0 : decode cX9_run 0 = .ok (.aload_n 0, 1) := by decide +kernel
theorem dX9_run_1 : decode cX9_run 1 = .ok (.getfield 22, 3) := by decide +kernel
theorem dX9_run_4 : decode cX9_run 4 = .ok (.aload_n 1, 1) := by decide +kernel
theorem dX9_run_5 : decode cX9_run 5 = .ok (.invokevirtual 26, 3) := by decide +kernel
theorem dX9_run_8 : decode cX9_run 8 = .ok (.aload_n 0, 1) := by decide +kernel
theorem dX9_run_9 : decode cX9_run 9 = .ok (.iload_n 2, 1) := by decide +kernel
theorem dX9_run_10 : decode cX9_run 10 = .ok (.putfield 30, 3) := by decide +kernel
theorem dX9_run_13 : decode cX9_run 13 = .ok (.iconst 0, 1) := by decide +kernel
theorem dX9_run_14 : decode cX9_run 14 = .ok (.istore 5, 2) := by decide +kernel
theorem dX9_run_16 : decode cX9_run 16 = .ok (.iload 5, 2) := by decide +kernel
theorem dX9_run_18 : decode cX9_run 18 = .ok (.iload 4, 2) := by decide +kernel
theorem dX9_run_20 : decode cX9_run 20 = .ok (.if_icmp .ge 45, 3) := by decide +kernel
theorem dX9_run_23 : decode cX9_run 23 = .ok (.aload_n 0, 1) := by decide +kernel
theorem dX9_run_24 : decode cX9_run 24 = .ok (.getfield 9, 3) := by decide +kernel
theorem dX9_run_27 : decode cX9_run 27 = .ok (.getfield 34, 3) := by decide +kernel
theorem dX9_run_30 : decode cX9_run 30 = .ok (.ifCond .le 22, 3) := by decide +kernel
theorem dX9_run_33 : decode cX9_run 33 = .ok (.aload_n 0, 1) := by decide +kernel
theorem dX9_run_34 : decode cX9_run 34 = .ok (.getfield 9, 3) := by decide +kernel
theorem dX9_run_37 : decode cX9_run 37 = .ok (.getfield 39, 3) := by decide +kernel
theorem dX9_run_40 : decode cX9_run 40 = .ok (.ifCond .le 12, 3) := by decide +kernel
theorem dX9_run_43 : decode cX9_run 43 = .ok (.aload_n 0, 1) := by decide +kernel
theorem dX9_run_44 : decode cX9_run 44 = .ok (.invokevirtual 42, 3) := by decide +kernel
theorem dX9_run_47 : decode cX9_run 47 = .ok (.aload_n 0, 1) := by decide +kernel
theorem dX9_run_48 : decode cX9_run 48 = .ok (.iload_n 3, 1) := by decide +kernel
theorem dX9_run_49 : decode cX9_run 49 = .ok (.invokevirtual 45, 3) := by decide +kernel
theorem dX9_run_52 : decode cX9_run 52 = .ok (.aload_n 0, 1) := by decide +kernel
theorem dX9_run_53 : decode cX9_run 53 = .ok (.getfield 22, 3) := by decide +kernel
theorem dX9_run_56 : decode cX9_run 56 = .ok (.invokevirtual 49, 3) := by decide +kernel
theorem dX9_run_59 : decode cX9_run 59 = .ok (.iinc 5 1, 3) := by decide +kernel
theorem dX9_run_62 : decode cX9_run 62 = .ok (.goto (-46), 3) := by decide +kernel
theorem dX9_run_65 : decode cX9_run 65 = .ok (.return_, 1) := by decide +kernel
theorem dX10_isDone_0 : decode cX10_isDone 0 = .ok (.aload_n 0, 1) := by decide +kernel
theorem dX10_isDone_1 : decode cX10_isDone 1 = .ok (.getfield 27, 3) := by decide +kernel
theorem dX10_isDone_4 : decode cX10_isDone 4 = .ok (.iload_n 2, 1) := by decide +kernel
theorem dX10_isDone_5 : decode cX10_isDone 5 = .ok (.iaload, 1) := by decide +kernel
theorem dX10_isDone_6 : decode cX10_isDone 6 = .ok (.istore_n 3, 1) := by decide +kernel
theorem dX10_isDone_7 : decode cX10_isDone 7 = .ok (.aload_n 0, 1) := by decide +kernel
theorem dX10_isDone_8 : decode cX10_isDone 8 = .ok (.getfield 30, 3) := by decide +kernel
theorem dX10_isDone_11 : decode cX10_isDone 11 = .ok (.iload_n 2, 1) := by decide +kernel
theorem dX10_isDone_12 : decode cX10_isDone 12 = .ok (.iaload, 1) := by decide +kernel
theorem dX10_isDone_13 : decode cX10_isDone 13 = .ok (.istore 4, 2) := by decide +kernel
theorem dX10_isDone_15 : decode cX10_isDone 15 = .ok (.aload_n 0, 1) := by decide +kernel
theorem dX10_isDone_16 : decode cX10_isDone 16 = .ok (.getfield 33, 3) := by decide +kernel
theorem dX10_isDone_19 : decode cX10_isDone 19 = .ok (.iload_n 2, 1) := by decide +kernel
theorem dX10_isDone_20 : decode cX10_isDone 20 = .ok (.iaload, 1) := by decide +kernel
theorem dX10_isDone_21 : decode cX10_isDone 21 = .ok (.istore 5, 2) := by decide +kernel
theorem dX10_isDone_23 : decode cX10_isDone 23 = .ok (.aload_n 0, 1) := by decide +kernel
theorem dX10_isDone_24 : decode cX10_isDone 24 = .ok (.getfield 23, 3) := by decide +kernel
theorem dX10_isDone_27 : decode cX10_isDone 27 = .ok (.iload_n 2, 1) := by decide +kernel
theorem dX10_isDone_28 : decode cX10_isDone 28 = .ok (.iaload, 1) := by decide +kernel
theorem dX10_isDone_29 : decode cX10_isDone 29 = .ok (.tableswitch 107 0 4 #[35, 47, 59, 73, 87], 35) := by decide +kernel
theorem dX10_isDone_64 : decode cX10_isDone 64 = .ok (.aload_n 0, 1) := by decide +kernel
theorem dX10_isDone_65 : decode cX10_isDone 65 = .ok (.getfield 19, 3) := by decide +kernel
theorem dX10_isDone_68 : decode cX10_isDone 68 = .ok (.aload_n 1, 1) := by decide +kernel
theorem dX10_isDone_69 : decode cX10_isDone 69 = .ok (.iload_n 3, 1) := by decide +kernel
theorem dX10_isDone_70 : decode cX10_isDone 70 = .ok (.iload 4, 2) := by decide +kernel
theorem dX10_isDone_72 : decode cX10_isDone 72 = .ok (.invokevirtual 118, 3) := by decide +kernel
theorem dX10_isDone_75 : decode cX10_isDone 75 = .ok (.ireturn, 1) := by decide +kernel
theorem dX10_isDone_76 : decode cX10_isDone 76 = .ok (.aload_n 0, 1) := by decide +kernel
theorem dX10_isDone_77 : decode cX10_isDone 77 = .ok (.getfield 19, 3) := by decide +kernel
theorem dX10_isDone_80 : decode cX10_isDone 80 = .ok (.aload_n 1, 1) := by decide +kernel
theorem dX10_isDone_81 : decode cX10_isDone 81 = .ok (.iload_n 3, 1) := by decide +kernel
theorem dX10_isDone_82 : decode cX10_isDone 82 = .ok (.iload 4, 2) := by decide +kernel
theorem dX10_isDone_84 : decode cX10_isDone 84 = .ok (.invokevirtual 124, 3) := by decide +kernel
theorem dX10_isDone_87 : decode cX10_isDone 87 = .ok (.ireturn, 1) := by decide +kernel
theorem dX10_isDone_88 : decode cX10_isDone 88 = .ok (.aload_n 1, 1) := by decide +kernel
theorem dX10_isDone_89 : decode cX10_isDone 89 = .ok (.iload_n 3, 1) := by decide +kernel
theorem dX10_isDone_90 : decode cX10_isDone 90 = .ok (.bipush 7, 2) := by decide +kernel
theorem dX10_isDone_92 : decode cX10_isDone 92 = .ok (.imul, 1) := by decide +kernel
theorem dX10_isDone_93 : decode cX10_isDone 93 = .ok (.iload 4, 2) := by decide +kernel
theorem dX10_isDone_95 : decode cX10_isDone 95 = .ok (.iadd, 1) := by decide +kernel
theorem dX10_isDone_96 : decode cX10_isDone 96 = .ok (.iload 5, 2) := by decide +kernel
theorem dX10_isDone_98 : decode cX10_isDone 98 = .ok (.invokevirtual 127, 3) := by decide +kernel
theorem dX10_isDone_101 : decode cX10_isDone 101 = .ok (.ireturn, 1) := by decide +kernel
theorem dX10_isDone_102 : decode cX10_isDone 102 = .ok (.aload_n 1, 1) := by decide +kernel
theorem dX10_isDone_103 : decode cX10_isDone 103 = .ok (.iload_n 3, 1) := by decide +kernel
theorem dX10_isDone_104 : decode cX10_isDone 104 = .ok (.bipush 7, 2) := by decide +kernel
theorem dX10_isDone_106 : decode cX10_isDone 106 = .ok (.imul, 1) := by decide +kernel
theorem dX10_isDone_107 : decode cX10_isDone 107 = .ok (.iload 4, 2) := by decide +kernel
theorem dX10_isDone_109 : decode cX10_isDone 109 = .ok (.iadd, 1) := by decide +kernel
theorem dX10_isDone_110 : decode cX10_isDone 110 = .ok (.iload 5, 2) := by decide +kernel
theorem dX10_isDone_112 : decode cX10_isDone 112 = .ok (.invokevirtual 132, 3) := by decide +kernel
theorem dX10_isDone_115 : decode cX10_isDone 115 = .ok (.ireturn, 1) := by decide +kernel
theorem dX10_isDone_116 : decode cX10_isDone 116 = .ok (.aload_n 1, 1) := by decide +kernel
theorem dX10_isDone_117 : decode cX10_isDone 117 = .ok (.iload_n 3, 1) := by decide +kernel
theorem dX10_isDone_118 : decode cX10_isDone 118 = .ok (.bipush 7, 2) := by decide +kernel
theorem dX10_isDone_120 : decode cX10_isDone 120 = .ok (.imul, 1) := by decide +kernel
theorem dX10_isDone_121 : decode cX10_isDone 121 = .ok (.iload 5, 2) := by decide +kernel
theorem dX10_isDone_123 : decode cX10_isDone 123 = .ok (.iadd, 1) := by decide +kernel
theorem dX10_isDone_124 : decode cX10_isDone 124 = .ok (.iload 4, 2) := by decide +kernel
theorem dX10_isDone_126 : decode cX10_isDone 126 = .ok (.bipush 7, 2) := by decide +kernel
theorem dX10_isDone_128 : decode cX10_isDone 128 = .ok (.imul, 1) := by decide +kernel
theorem dX10_isDone_129 : decode cX10_isDone 129 = .ok (.iload 5, 2) := by decide +kernel
theorem dX10_isDone_131 : decode cX10_isDone 131 = .ok (.iadd, 1) := by decide +kernel
theorem dX10_isDone_132 : decode cX10_isDone 132 = .ok (.invokevirtual 135, 3) := by decide +kernel
theorem dX10_isDone_135 : decode cX10_isDone 135 = .ok (.ireturn, 1) := by decide +kernel
theorem dX10_isDone_136 : decode cX10_isDone 136 = .ok (.aload_n 1, 1) := by decide +kernel
theorem dX10_isDone_137 : decode cX10_isDone 137 = .ok (.getfield 138, 3) := by decide +kernel
theorem dX10_isDone_140 : decode cX10_isDone 140 = .ok (.sipush 400, 3) := by decide +kernel
theorem dX10_isDone_143 : decode cX10_isDone 143 = .ok (.if_icmp .lt 5, 3) := by decide +kernel
theorem dX10_isDone_146 : decode cX10_isDone 146 = .ok (.iconst 0, 1) := by decide +kernel
theorem dX10_isDone_147 : decode cX10_isDone 147 = .ok (.ireturn, 1) := by decide +kernel
theorem dX10_isDone_148 : decode cX10_isDone 148 = .ok (.aload_n 1, 1) := by decide +kernel
theorem dX10_isDone_149 : decode cX10_isDone 149 = .ok (.invokevirtual 141, 3) := by decide +kernel
theorem dX10_isDone_152 : decode cX10_isDone 152 = .ok (.iconst 1, 1) := by decide +kernel
theorem dX10_isDone_153 : decode cX10_isDone 153 = .ok (.ireturn, 1) := by decide +kernel
theorem dX10_perform_0 : decode cX10_perform 0 = .ok (.iload 4, 2) := by decide +kernel
theorem dX10_perform_2 : decode cX10_perform 2 = .ok (.bipush 6, 2) := by decide +kernel
theorem dX10_perform_4 : decode cX10_perform 4 = .ok (.if_icmp .le 4, 3) := by decide +kernel
theorem dX10_perform_7 : decode cX10_perform 7 = .ok (.return_, 1) := by decide +kernel
theorem dX10_perform_8 : decode cX10_perform 8 = .ok (.iload_n 2, 1) := by decide +kernel
theorem dX10_perform_9 : decode cX10_perform 9 = .ok (.istore 5, 2) := by decide +kernel
theorem dX10_perform_11 : decode cX10_perform 11 = .ok (.iload 5, 2) := by decide +kernel
theorem dX10_perform_13 : decode cX10_perform 13 = .ok (.iload_n 3, 1) := by decide +kernel
theorem dX10_perform_14 : decode cX10_perform 14 = .ok (.if_icmp .ge 143, 3) := by decide +kernel
theorem dX10_perform_17 : decode cX10_perform 17 = .ok (.aload_n 0, 1) := by decide +kernel
theorem dX10_perform_18 : decode cX10_perform 18 = .ok (.getfield 43, 3) := by decide +kernel
theorem dX10_perform_21 : decode cX10_perform 21 = .ok (.sipush 200, 3) := by decide +kernel
theorem dX10_perform_24 : decode cX10_perform 24 = .ok (.if_icmp .ge 133, 3) := by decide +kernel
theorem dX10_perform_27 : decode cX10_perform 27 = .ok (.aload_n 0, 1) := by decide +kernel
theorem dX10_perform_28 : decode cX10_perform 28 = .ok (.dup, 1) := by decide +kernel
theorem dX10_perform_29 : decode cX10_perform 29 = .ok (.getfield 43, 3) := by decide +kernel
theorem dX10_perform_32 : decode cX10_perform 32 = .ok (.iconst 1, 1) := by decide +kernel
theorem dX10_perform_33 : decode cX10_perform 33 = .ok (.iadd, 1) := by decide +kernel
theorem dX10_perform_34 : decode cX10_perform 34 = .ok (.putfield 43, 3) := by decide +kernel
theorem dX10_perform_37 : decode cX10_perform 37 = .ok (.aload_n 0, 1) := by decide +kernel
theorem dX10_perform_38 : decode cX10_perform 38 = .ok (.getfield 23, 3) := by decide +kernel
theorem dX10_perform_41 : decode cX10_perform 41 = .ok (.iload 5, 2) := by decide +kernel
theorem dX10_perform_43 : decode cX10_perform 43 = .ok (.iaload, 1) := by decide +kernel
theorem dX10_perform_44 : decode cX10_perform 44 = .ok (.bipush 6, 2) := by decide +kernel
theorem dX10_perform_46 : decode cX10_perform 46 = .ok (.if_icmp .ne 72, 3) := by decide +kernel
theorem dX10_perform_49 : decode cX10_perform 49 = .ok (.aload_n 0, 1) := by decide +kernel
theorem dX10_perform_50 : decode cX10_perform 50 = .ok (.getfield 36, 3) := by decide +kernel
theorem dX10_perform_53 : decode cX10_perform 53 = .ok (.iload 5, 2) := by decide +kernel
theorem dX10_perform_55 : decode cX10_perform 55 = .ok (.iaload, 1) := by decide +kernel
theorem dX10_perform_56 : decode cX10_perform 56 = .ok (.istore 6, 2) := by decide +kernel
theorem dX10_perform_58 : decode cX10_perform 58 = .ok (.iconst 0, 1) := by decide +kernel
theorem dX10_perform_59 : decode cX10_perform 59 = .ok (.istore 7, 2) := by decide +kernel
theorem dX10_perform_61 : decode cX10_perform 61 = .ok (.iload 7, 2) := by decide +kernel
theorem dX10_perform_63 : decode cX10_perform 63 = .ok (.aload_n 0, 1) := by decide +kernel
theorem dX10_perform_64 : decode cX10_perform 64 = .ok (.getfield 27, 3) := by decide +kernel
theorem dX10_perform_67 : decode cX10_perform 67 = .ok (.iload 5, 2) := by decide +kernel
theorem dX10_perform_69 : decode cX10_perform 69 = .ok (.iaload, 1) := by decide +kernel
theorem dX10_perform_70 : decode cX10_perform 70 = .ok (.if_icmp .ge 34, 3) := by decide +kernel
theorem dX10_perform_73 : decode cX10_perform 73 = .ok (.aload_n 0, 1) := by decide +kernel
theorem dX10_perform_74 : decode cX10_perform 74 = .ok (.getfield 43, 3) := by decide +kernel
theorem dX10_perform_77 : decode cX10_perform 77 = .ok (.sipush 200, 3) := by decide +kernel
theorem dX10_perform_80 : decode cX10_perform 80 = .ok (.if_icmp .ge 24, 3) := by decide +kernel
theorem dX10_perform_83 : decode cX10_perform 83 = .ok (.aload_n 0, 1) := by decide +kernel
theorem dX10_perform_84 : decode cX10_perform 84 = .ok (.aload_n 1, 1) := by decide +kernel
theorem dX10_perform_85 : decode cX10_perform 85 = .ok (.iload 5, 2) := by decide +kernel
theorem dX10_perform_87 : decode cX10_perform 87 = .ok (.iconst 1, 1) := by decide +kernel
theorem dX10_perform_88 : decode cX10_perform 88 = .ok (.iadd, 1) := by decide +kernel
theorem dX10_perform_89 : decode cX10_perform 89 = .ok (.iload 6, 2) := by decide +kernel
theorem dX10_perform_91 : decode cX10_perform 91 = .ok (.iload 4, 2) := by decide +kernel
theorem dX10_perform_93 : decode cX10_perform 93 = .ok (.iconst 1, 1) := by decide +kernel
theorem dX10_perform_94 : decode cX10_perform 94 = .ok (.iadd, 1) := by decide +kernel
theorem dX10_perform_95 : decode cX10_perform 95 = .ok (.invokevirtual 105, 3) := by decide +kernel
theorem dX10_perform_98 : decode cX10_perform 98 = .ok (.iinc 7 1, 3) := by decide +kernel
theorem dX10_perform_101 : decode cX10_perform 101 = .ok (.goto (-40), 3) := by decide +kernel
theorem dX10_perform_104 : decode cX10_perform 104 = .ok (.iload 5, 2) := by decide +kernel
theorem dX10_perform_106 : decode cX10_perform 106 = .ok (.iload 6, 2) := by decide +kernel
theorem dX10_perform_108 : decode cX10_perform 108 = .ok (.iconst 1, 1) := by decide +kernel
theorem dX10_perform_109 : decode cX10_perform 109 = .ok (.isub, 1) := by decide +kernel
theorem dX10_perform_110 : decode cX10_perform 110 = .ok (.invokestatic 109, 3) := by decide +kernel
theorem dX10_perform_113 : decode cX10_perform 113 = .ok (.istore 5, 2) := by decide +kernel
theorem dX10_perform_115 : decode cX10_perform 115 = .ok (.goto 36, 3) := by decide +kernel
theorem dX10_perform_118 : decode cX10_perform 118 = .ok (.aload_n 0, 1) := by decide +kernel
theorem dX10_perform_119 : decode cX10_perform 119 = .ok (.aload_n 1, 1) := by decide +kernel
theorem dX10_perform_120 : decode cX10_perform 120 = .ok (.iload 5, 2) := by decide +kernel
theorem dX10_perform_122 : decode cX10_perform 122 = .ok (.invokevirtual 114, 3) := by decide +kernel
theorem dX10_perform_125 : decode cX10_perform 125 = .ok (.ifCond .eq 16, 3) := by decide +kernel
theorem dX10_perform_128 : decode cX10_perform 128 = .ok (.aload_n 0, 1) := by decide +kernel
theorem dX10_perform_129 : decode cX10_perform 129 = .ok (.dup, 1) := by decide +kernel
theorem dX10_perform_130 : decode cX10_perform 130 = .ok (.getfield 46, 3) := by decide +kernel
theorem dX10_perform_133 : decode cX10_perform 133 = .ok (.iconst 1, 1) := by decide +kernel
theorem dX10_perform_134 : decode cX10_perform 134 = .ok (.iadd, 1) := by decide +kernel
theorem dX10_perform_135 : decode cX10_perform 135 = .ok (.putfield 46, 3) := by decide +kernel
theorem dX10_perform_138 : decode cX10_perform 138 = .ok (.goto 13, 3) := by decide +kernel
theorem dX10_perform_141 : decode cX10_perform 141 = .ok (.aload_n 0, 1) := by decide +kernel
theorem dX10_perform_142 : decode cX10_perform 142 = .ok (.dup, 1) := by decide +kernel
theorem dX10_perform_143 : decode cX10_perform 143 = .ok (.getfield 49, 3) := by decide +kernel
theorem dX10_perform_146 : decode cX10_perform 146 = .ok (.iconst 1, 1) := by decide +kernel
theorem dX10_perform_147 : decode cX10_perform 147 = .ok (.iadd, 1) := by decide +kernel
theorem dX10_perform_148 : decode cX10_perform 148 = .ok (.putfield 49, 3) := by decide +kernel
theorem dX10_perform_151 : decode cX10_perform 151 = .ok (.iinc 5 1, 3) := by decide +kernel
theorem dX10_perform_154 : decode cX10_perform 154 = .ok (.goto (-143), 3) := by decide +kernel
theorem dX10_perform_157 : decode cX10_perform 157 = .ok (.return_, 1) := by decide +kernel
theorem dX9_passThroughGlass_0 : decode cX9_passThroughGlass 0 = .ok (.aload_n 0, 1) := by decide +kernel
theorem dX9_passThroughGlass_1 : decode cX9_passThroughGlass 1 = .ok (.aload_n 0, 1) := by decide +kernel
theorem dX9_passThroughGlass_2 : decode cX9_passThroughGlass 2 = .ok (.getfield 9, 3) := by decide +kernel
theorem dX9_passThroughGlass_5 : decode cX9_passThroughGlass 5 = .ok (.getfield 34, 3) := by decide +kernel
theorem dX9_passThroughGlass_8 : decode cX9_passThroughGlass 8 = .ok (.invokevirtual 52, 3) := by decide +kernel
theorem dX9_passThroughGlass_11 : decode cX9_passThroughGlass 11 = .ok (.istore_n 1, 1) := by decide +kernel
theorem dX9_passThroughGlass_12 : decode cX9_passThroughGlass 12 = .ok (.aload_n 0, 1) := by decide +kernel
theorem dX9_passThroughGlass_13 : decode cX9_passThroughGlass 13 = .ok (.aload_n 0, 1) := by decide +kernel
theorem dX9_passThroughGlass_14 : decode cX9_passThroughGlass 14 = .ok (.getfield 9, 3) := by decide +kernel
theorem dX9_passThroughGlass_17 : decode cX9_passThroughGlass 17 = .ok (.getfield 39, 3) := by decide +kernel
theorem dX9_passThroughGlass_20 : decode cX9_passThroughGlass 20 = .ok (.invokevirtual 52, 3) := by decide +kernel
theorem dX9_passThroughGlass_23 : decode cX9_passThroughGlass 23 = .ok (.istore_n 2, 1) := by decide +kernel
theorem dX9_passThroughGlass_24 : decode cX9_passThroughGlass 24 = .ok (.aload_n 0, 1) := by decide +kernel
theorem dX9_passThroughGlass_25 : decode cX9_passThroughGlass 25 = .ok (.getfield 15, 3) := by decide +kernel
theorem dX9_passThroughGlass_28 : decode cX9_passThroughGlass 28 = .ok (.aload_n 0, 1) := by decide +kernel
theorem dX9_passThroughGlass_29 : decode cX9_passThroughGlass 29 = .ok (.getfield 22, 3) := by decide +kernel
theorem dX9_passThroughGlass_32 : decode cX9_passThroughGlass 32 = .ok (.iload_n 1, 1) := by decide +kernel
theorem dX9_passThroughGlass_33 : decode cX9_passThroughGlass 33 = .ok (.iload_n 2, 1) := by decide +kernel
theorem dX9_passThroughGlass_34 : decode cX9_passThroughGlass 34 = .ok (.invokevirtual 56, 3) := by decide +kernel
theorem dX9_passThroughGlass_37 : decode cX9_passThroughGlass 37 = .ok (.ifCond .ne 17, 3) := by decide +kernel
theorem dX9_passThroughGlass_40 : decode cX9_passThroughGlass 40 = .ok (.aload_n 0, 1) := by decide +kernel
theorem dX9_passThroughGlass_41 : decode cX9_passThroughGlass 41 = .ok (.getfield 15, 3) := by decide +kernel
theorem dX9_passThroughGlass_44 : decode cX9_passThroughGlass 44 = .ok (.aload_n 0, 1) := by decide +kernel
theorem dX9_passThroughGlass_45 : decode cX9_passThroughGlass 45 = .ok (.getfield 22, 3) := by decide +kernel
theorem dX9_passThroughGlass_48 : decode cX9_passThroughGlass 48 = .ok (.iload_n 1, 1) := by decide +kernel
theorem dX9_passThroughGlass_49 : decode cX9_passThroughGlass 49 = .ok (.iload_n 2, 1) := by decide +kernel
theorem dX9_passThroughGlass_50 : decode cX9_passThroughGlass 50 = .ok (.invokevirtual 62, 3) := by decide +kernel
theorem dX9_passThroughGlass_53 : decode cX9_passThroughGlass 53 = .ok (.pop, 1) := by decide +kernel
theorem dX9_passThroughGlass_54 : decode cX9_passThroughGlass 54 = .ok (.return_, 1) := by decide +kernel
theorem dX10_readNumbers_0 : decode cX10_readNumbers 0 = .ok (.aload_n 0, 1) := by decide +kernel
theorem dX10_readNumbers_1 : decode cX10_readNumbers 1 = .ok (.getfield 27, 3) := by decide +kernel
theorem dX10_readNumbers_4 : decode cX10_readNumbers 4 = .ok (.iload_n 1, 1) := by decide +kernel
theorem dX10_readNumbers_5 : decode cX10_readNumbers 5 = .ok (.aload_n 0, 1) := by decide +kernel
theorem dX10_readNumbers_6 : decode cX10_readNumbers 6 = .ok (.getfield 9, 3) := by decide +kernel
theorem dX10_readNumbers_9 : decode cX10_readNumbers 9 = .ok (.iconst 0, 1) := by decide +kernel
theorem dX10_readNumbers_10 : decode cX10_readNumbers 10 = .ok (.aload_n 0, 1) := by decide +kernel
theorem dX10_readNumbers_11 : decode cX10_readNumbers 11 = .ok (.getfield 15, 3) := by decide +kernel
theorem dX10_readNumbers_14 : decode cX10_readNumbers 14 = .ok (.getfield 97, 3) := by decide +kernel
theorem dX10_readNumbers_17 : decode cX10_readNumbers 17 = .ok (.iconst 1, 1) := by decide +kernel
theorem dX10_readNumbers_18 : decode cX10_readNumbers 18 = .ok (.isub, 1) := by decide +kernel
theorem dX10_readNumbers_19 : decode cX10_readNumbers 19 = .ok (.invokevirtual 86, 3) := by decide +kernel
theorem dX10_readNumbers_22 : decode cX10_readNumbers 22 = .ok (.iastore, 1) := by decide +kernel
theorem dX10_readNumbers_23 : decode cX10_readNumbers 23 = .ok (.iload_n 2, 1) := by decide +kernel
theorem dX10_readNumbers_24 : decode cX10_readNumbers 24 = .ok (.ifCond .eq 8, 3) := by decide +kernel
theorem dX10_readNumbers_27 : decode cX10_readNumbers 27 = .ok (.iload_n 2, 1) := by decide +kernel
theorem dX10_readNumbers_28 : decode cX10_readNumbers 28 = .ok (.iconst 1, 1) := by decide +kernel
theorem dX10_readNumbers_29 : decode cX10_readNumbers 29 = .ok (.if_icmp .ne 27, 3) := by decide +kernel
theorem dX10_readNumbers_32 : decode cX10_readNumbers 32 = .ok (.aload_n 0, 1) := by decide +kernel
theorem dX10_readNumbers_33 : decode cX10_readNumbers 33 = .ok (.getfield 30, 3) := by decide +kernel
theorem dX10_readNumbers_36 : decode cX10_readNumbers 36 = .ok (.iload_n 1, 1) := by decide +kernel
theorem dX10_readNumbers_37 : decode cX10_readNumbers 37 = .ok (.aload_n 0, 1) := by decide +kernel
theorem dX10_readNumbers_38 : decode cX10_readNumbers 38 = .ok (.getfield 9, 3) := by decide +kernel
theorem dX10_readNumbers_41 : decode cX10_readNumbers 41 = .ok (.iconst 0, 1) := by decide +kernel
theorem dX10_readNumbers_42 : decode cX10_readNumbers 42 = .ok (.aload_n 0, 1) := by decide +kernel
theorem dX10_readNumbers_43 : decode cX10_readNumbers 43 = .ok (.getfield 15, 3) := by decide +kernel
theorem dX10_readNumbers_46 : decode cX10_readNumbers 46 = .ok (.getfield 102, 3) := by decide +kernel
theorem dX10_readNumbers_49 : decode cX10_readNumbers 49 = .ok (.iconst 1, 1) := by decide +kernel
theorem dX10_readNumbers_50 : decode cX10_readNumbers 50 = .ok (.isub, 1) := by decide +kernel
theorem dX10_readNumbers_51 : decode cX10_readNumbers 51 = .ok (.invokevirtual 86, 3) := by decide +kernel
theorem dX10_readNumbers_54 : decode cX10_readNumbers 54 = .ok (.iastore, 1) := by decide +kernel
theorem dX10_readNumbers_55 : decode cX10_readNumbers 55 = .ok (.return_, 1) := by decide +kernel
theorem dX10_readNumbers_56 : decode cX10_readNumbers 56 = .ok (.iload_n 2, 1) := by decide +kernel
theorem dX10_readNumbers_57 : decode cX10_readNumbers 57 = .ok (.iconst 4, 1) := by decide +kernel
theorem dX10_readNumbers_58 : decode cX10_readNumbers 58 = .ok (.if_icmp .ne 43, 3) := by decide +kernel
theorem dX10_readNumbers_61 : decode cX10_readNumbers 61 = .ok (.aload_n 0, 1) := by decide +kernel
theorem dX10_readNumbers_62 : decode cX10_readNumbers 62 = .ok (.getfield 30, 3) := by decide +kernel
theorem dX10_readNumbers_65 : decode cX10_readNumbers 65 = .ok (.iload_n 1, 1) := by decide +kernel
theorem dX10_readNumbers_66 : decode cX10_readNumbers 66 = .ok (.aload_n 0, 1) := by decide +kernel
theorem dX10_readNumbers_67 : decode cX10_readNumbers 67 = .ok (.getfield 9, 3) := by decide +kernel
theorem dX10_readNumbers_70 : decode cX10_readNumbers 70 = .ok (.iconst 0, 1) := by decide +kernel
theorem dX10_readNumbers_71 : decode cX10_readNumbers 71 = .ok (.aload_n 0, 1) := by decide +kernel
theorem dX10_readNumbers_72 : decode cX10_readNumbers 72 = .ok (.getfield 15, 3) := by decide +kernel
theorem dX10_readNumbers_75 : decode cX10_readNumbers 75 = .ok (.getfield 97, 3) := by decide +kernel
theorem dX10_readNumbers_78 : decode cX10_readNumbers 78 = .ok (.iconst 1, 1) := by decide +kernel
theorem dX10_readNumbers_79 : decode cX10_readNumbers 79 = .ok (.isub, 1) := by decide +kernel
theorem dX10_readNumbers_80 : decode cX10_readNumbers 80 = .ok (.invokevirtual 86, 3) := by decide +kernel
theorem dX10_readNumbers_83 : decode cX10_readNumbers 83 = .ok (.iastore, 1) := by decide +kernel
theorem dX10_readNumbers_84 : decode cX10_readNumbers 84 = .ok (.aload_n 0, 1) := by decide +kernel
theorem dX10_readNumbers_85 : decode cX10_readNumbers 85 = .ok (.getfield 33, 3) := by decide +kernel
theorem dX10_readNumbers_88 : decode cX10_readNumbers 88 = .ok (.iload_n 1, 1) := by decide +kernel
theorem dX10_readNumbers_89 : decode cX10_readNumbers 89 = .ok (.aload_n 0, 1) := by decide +kernel
theorem dX10_readNumbers_90 : decode cX10_readNumbers 90 = .ok (.getfield 9, 3) := by decide +kernel
theorem dX10_readNumbers_93 : decode cX10_readNumbers 93 = .ok (.iconst 0, 1) := by decide +kernel
theorem dX10_readNumbers_94 : decode cX10_readNumbers 94 = .ok (.bipush 6, 2) := by decide +kernel
theorem dX10_readNumbers_96 : decode cX10_readNumbers 96 = .ok (.invokevirtual 86, 3) := by decide +kernel
theorem dX10_readNumbers_99 : decode cX10_readNumbers 99 = .ok (.iastore, 1) := by decide +kernel
theorem dX10_readNumbers_100 : decode cX10_readNumbers 100 = .ok (.return_, 1) := by decide +kernel
theorem dX10_readNumbers_101 : decode cX10_readNumbers 101 = .ok (.aload_n 0, 1) := by decide +kernel
theorem dX10_readNumbers_102 : decode cX10_readNumbers 102 = .ok (.getfield 30, 3) := by decide +kernel
theorem dX10_readNumbers_105 : decode cX10_readNumbers 105 = .ok (.iload_n 1, 1) := by decide +kernel
theorem dX10_readNumbers_106 : decode cX10_readNumbers 106 = .ok (.aload_n 0, 1) := by decide +kernel
theorem dX10_readNumbers_107 : decode cX10_readNumbers 107 = .ok (.getfield 9, 3) := by decide +kernel
theorem dX10_readNumbers_110 : decode cX10_readNumbers 110 = .ok (.iconst 0, 1) := by decide +kernel
theorem dX10_readNumbers_111 : decode cX10_readNumbers 111 = .ok (.bipush 6, 2) := by decide +kernel
theorem dX10_readNumbers_113 : decode cX10_readNumbers 113 = .ok (.invokevirtual 86, 3) := by decide +kernel
theorem dX10_readNumbers_116 : decode cX10_readNumbers 116 = .ok (.iastore, 1) := by decide +kernel
theorem dX10_readNumbers_117 : decode cX10_readNumbers 117 = .ok (.aload_n 0, 1) := by decide +kernel
theorem dX10_readNumbers_118 : decode cX10_readNumbers 118 = .ok (.getfield 33, 3) := by decide +kernel
theorem dX10_readNumbers_121 : decode cX10_readNumbers 121 = .ok (.iload_n 1, 1) := by decide +kernel
theorem dX10_readNumbers_122 : decode cX10_readNumbers 122 = .ok (.aload_n 0, 1) := by decide +kernel
theorem dX10_readNumbers_123 : decode cX10_readNumbers 123 = .ok (.getfield 9, 3) := by decide +kernel
theorem dX10_readNumbers_126 : decode cX10_readNumbers 126 = .ok (.iconst 1, 1) := by decide +kernel
theorem dX10_readNumbers_127 : decode cX10_readNumbers 127 = .ok (.bipush 40, 2) := by decide +kernel
theorem dX10_readNumbers_129 : decode cX10_readNumbers 129 = .ok (.invokevirtual 86, 3) := by decide +kernel
theorem dX10_readNumbers_132 : decode cX10_readNumbers 132 = .ok (.iastore, 1) := by decide +kernel
theorem dX10_readNumbers_133 : decode cX10_readNumbers 133 = .ok (.return_, 1) := by decide +kernel
theorem dX10_readSteps_0 : decode cX10_readSteps 0 = .ok (.iconst 0, 1) := by decide +kernel
theorem dX10_readSteps_1 : decode cX10_readSteps 1 = .ok (.istore_n 2, 1) := by decide +kernel
theorem dX10_readSteps_2 : decode cX10_readSteps 2 = .ok (.iload_n 2, 1) := by decide +kernel
theorem dX10_readSteps_3 : decode cX10_readSteps 3 = .ok (.sipush 150, 3) := by decide +kernel
theorem dX10_readSteps_6 : decode cX10_readSteps 6 = .ok (.if_icmp .ge 62, 3) := by decide +kernel
theorem dX10_readSteps_9 : decode cX10_readSteps 9 = .ok (.iload_n 1, 1) := by decide +kernel
theorem dX10_readSteps_10 : decode cX10_readSteps 10 = .ok (.ifCond .ne 16, 3) := by decide +kernel
theorem dX10_readSteps_13 : decode cX10_readSteps 13 = .ok (.aload_n 0, 1) := by decide +kernel
theorem dX10_readSteps_14 : decode cX10_readSteps 14 = .ok (.getfield 9, 3) := by decide +kernel
theorem dX10_readSteps_17 : decode cX10_readSteps 17 = .ok (.invokevirtual 56, 3) := by decide +kernel
theorem dX10_readSteps_20 : decode cX10_readSteps 20 = .ok (.ifCond .eq 20, 3) := by decide +kernel
theorem dX10_readSteps_23 : decode cX10_readSteps 23 = .ok (.goto 15, 3) := by decide +kernel
theorem dX10_readSteps_26 : decode cX10_readSteps 26 = .ok (.aload_n 0, 1) := by decide +kernel
theorem dX10_readSteps_27 : decode cX10_readSteps 27 = .ok (.getfield 9, 3) := by decide +kernel
theorem dX10_readSteps_30 : decode cX10_readSteps 30 = .ok (.bipush 93, 2) := by decide +kernel
theorem dX10_readSteps_32 : decode cX10_readSteps 32 = .ok (.invokevirtual 62, 3) := by decide +kernel
theorem dX10_readSteps_35 : decode cX10_readSteps 35 = .ok (.ifCond .eq 5, 3) := by decide +kernel
theorem dX10_readSteps_38 : decode cX10_readSteps 38 = .ok (.iconst 1, 1) := by decide +kernel
theorem dX10_readSteps_39 : decode cX10_readSteps 39 = .ok (.ireturn, 1) := by decide +kernel
theorem dX10_readSteps_40 : decode cX10_readSteps 40 = .ok (.aload_n 0, 1) := by decide +kernel
theorem dX10_readSteps_41 : decode cX10_readSteps 41 = .ok (.iload_n 1, 1) := by decide +kernel
theorem dX10_readSteps_42 : decode cX10_readSteps 42 = .ok (.invokevirtual 66, 3) := by decide +kernel
theorem dX10_readSteps_45 : decode cX10_readSteps 45 = .ok (.ifCond .eq 15, 3) := by decide +kernel
theorem dX10_readSteps_48 : decode cX10_readSteps 48 = .ok (.aload_n 0, 1) := by decide +kernel
theorem dX10_readSteps_49 : decode cX10_readSteps 49 = .ok (.getfield 9, 3) := by decide +kernel
theorem dX10_readSteps_52 : decode cX10_readSteps 52 = .ok (.bipush 59, 2) := by decide +kernel
theorem dX10_readSteps_54 : decode cX10_readSteps 54 = .ok (.invokevirtual 69, 3) := by decide +kernel
theorem dX10_readSteps_57 : decode cX10_readSteps 57 = .ok (.ifCond .ne 5, 3) := by decide +kernel
theorem dX10_readSteps_60 : decode cX10_readSteps 60 = .ok (.iconst 0, 1) := by decide +kernel
theorem dX10_readSteps_61 : decode cX10_readSteps 61 = .ok (.ireturn, 1) := by decide +kernel
theorem dX10_readSteps_62 : decode cX10_readSteps 62 = .ok (.iinc 2 1, 3) := by decide +kernel
theorem dX10_readSteps_65 : decode cX10_readSteps 65 = .ok (.goto (-63), 3) := by decide +kernel
theorem dX10_readSteps_68 : decode cX10_readSteps 68 = .ok (.iconst 0, 1) := by decide +kernel
theorem dX10_readSteps_69 : decode cX10_readSteps 69 = .ok (.ireturn, 1) := by decide +kernel
theorem inU_X5 : ∀ w ∈ u_ws RX5 TX5 5, w ∈ BIG := by
  have h : u_ws RX5 TX5 5 = [247, 249, 251, 253, 255].filterMap (fun i => lw_tbl[i]?) := by decide +kernel
  have g : (u_ws RX5 TX5 5).all goodWord = true := by decide +kernel
  intro w hw
  refine inB ?_ (List.all_eq_true.mp g w hw)
  rw [h] at hw
  obtain ⟨i, -, hi⟩ := List.mem_filterMap.mp hw
  exact List.mem_of_getElem? hi
theorem fl_X5_9 : FL RX5 9 5 0 := ⟨RX5, TX5, 5, rfl, rfl, by decide, inU_X5, Or.inl (inBi 241 (by decide +kernel))⟩
theorem fl_X5_59 : FL RX5 59 1 5 := ⟨RX1, TX1, 6, rfl, rfl, by decide, inU_X1, Or.inr ⟨_, inNi (w := .fieldLinkNest "PartedFellows$Optics" 59 "PartedFellows$College" "places" "I" "PartedFellows") 183 (by decide +kernel)⟩⟩
theorem fl_X5_21 : FL RX5 21 5 2 := ⟨RX5, TX5, 5, rfl, rfl, by decide, inU_X5, Or.inl (inBi 243 (by decide +kernel))⟩
theorem fl_X5_31 : FL RX5 31 1 1 := ⟨RX1, TX1, 6, rfl, rfl, by decide, inU_X1, Or.inr ⟨_, inNi (w := .fieldLinkNest "PartedFellows$Optics" 31 "PartedFellows$College" "bends" "[I" "PartedFellows") 167 (by decide +kernel)⟩⟩
theorem fl_X5_42 : FL RX5 42 2 3 := ⟨RX2, TX2, 6, rfl, rfl, by decide, inU_X2, Or.inr ⟨_, inNi (w := .fieldLinkNest "PartedFellows$Optics" 42 "PartedFellows$Hall" "taken" "[I" "PartedFellows") 322 (by decide +kernel)⟩⟩
theorem fl_X5_45 : FL RX5 45 2 4 := ⟨RX2, TX2, 6, rfl, rfl, by decide, inU_X2, Or.inr ⟨_, inNi (w := .fieldLinkNest "PartedFellows$Optics" 45 "PartedFellows$Hall" "turns" "[I" "PartedFellows") 325 (by decide +kernel)⟩⟩
theorem fl_X5_48 : FL RX5 48 2 5 := ⟨RX2, TX2, 6, rfl, rfl, by decide, inU_X2, Or.inr ⟨_, inNi (w := .fieldLinkNest "PartedFellows$Optics" 48 "PartedFellows$Hall" "day" "I" "PartedFellows") 328 (by decide +kernel)⟩⟩
theorem fl_X5_15 : FL RX5 15 5 1 := ⟨RX5, TX5, 5, rfl, rfl, by decide, inU_X5, Or.inl (inBi 242 (by decide +kernel))⟩
set_option maxRecDepth 20000 in
theorem cw_X5_bounded : Cond.code yX5_bounded cX5_bounded 2 (some .int) ∈ BIG := inB (List.mem_of_getElem? (i := 885) rfl) rfl
theorem mv_X5_56 : MV RX5 56 yX5_bounded cX5_bounded 2 (some .int) 1 := ⟨inBi 882 (by decide +kernel), inBi 883 (by decide +kernel), inBi 884 (by decide +kernel), inBi 100 (by decide +kernel), cw_X5_bounded, by decide +kernel, by decide +kernel, by decide +kernel⟩
set_option maxRecDepth 20000 in
theorem cw_X4_valueFor : Cond.code yX4_valueFor cX4_valueFor 5 (some .int) ∈ BIG := inB (List.mem_of_getElem? (i := 878) rfl) rfl
theorem mv_X5_52 : MV RX5 52 yX4_valueFor cX4_valueFor 5 (some .int) 1 := ⟨inBi 875 (by decide +kernel), inBi 876 (by decide +kernel), inBi 877 (by decide +kernel), inBi 98 (by decide +kernel), cw_X4_valueFor, by decide +kernel, by decide +kernel, by decide +kernel⟩
theorem mv_X5_36 : MV RX5 36 yX2_allWithin cX2_allWithin 2 (some .int) 1 := ⟨inBi 864 (by decide +kernel), inBi 865 (by decide +kernel), inBi 866 (by decide +kernel), inBi 102 (by decide +kernel), cw_X2_allWithin, by decide +kernel, by decide +kernel, by decide +kernel⟩
theorem fl_X5_66 : FL RX5 66 2 0 := ⟨RX2, TX2, 6, rfl, rfl, by decide, inU_X2, Or.inr ⟨_, inNi (w := .fieldLinkNest "PartedFellows$Optics" 66 "PartedFellows$Hall" "within" "[I" "PartedFellows") 311 (by decide +kernel)⟩⟩
theorem fl_X5_73 : FL RX5 73 2 1 := ⟨RX2, TX2, 6, rfl, rfl, by decide, inU_X2, Or.inr ⟨_, inNi (w := .fieldLinkNest "PartedFellows$Optics" 73 "PartedFellows$Hall" "wall" "[I" "PartedFellows") 315 (by decide +kernel)⟩⟩
theorem fl_X5_76 : FL RX5 76 2 2 := ⟨RX2, TX2, 6, rfl, rfl, by decide, inU_X2, Or.inr ⟨_, inNi (w := .fieldLinkNest "PartedFellows$Optics" 76 "PartedFellows$Hall" "at" "[I" "PartedFellows") 319 (by decide +kernel)⟩⟩
theorem fl_X5_25 : FL RX5 25 5 3 := ⟨RX5, TX5, 5, rfl, rfl, by decide, inU_X5, Or.inl (inBi 245 (by decide +kernel))⟩
set_option maxRecDepth 20000 in
theorem cw_X5_turnOf : Cond.code yX5_turnOf cX5_turnOf 6 (some .int) ∈ BIG := inB (List.mem_of_getElem? (i := 874) rfl) rfl
theorem mv_X5_69 : MV RX5 69 yX5_turnOf cX5_turnOf 6 (some .int) 5 := ⟨inBi 871 (by decide +kernel), inBi 872 (by decide +kernel), inBi 873 (by decide +kernel), inBi 100 (by decide +kernel), cw_X5_turnOf, by decide +kernel, by decide +kernel, by decide +kernel⟩
set_option maxRecDepth 20000 in
theorem cw_X1_parts : Cond.code yX1_parts cX1_parts 2 (some .boolean) ∈ BIG := inB (List.mem_of_getElem? (i := 863) rfl) rfl
theorem mv_X5_62 : MV RX5 62 yX1_parts cX1_parts 2 (some .boolean) 1 := ⟨inBi 860 (by decide +kernel), inBi 861 (by decide +kernel), inBi 862 (by decide +kernel), inBi 97 (by decide +kernel), cw_X1_parts, by decide +kernel, by decide +kernel, by decide +kernel⟩
set_option maxRecDepth 20000 in
theorem cw_X5_joinedBits : Cond.code yX5_joinedBits cX5_joinedBits 8 (some .int) ∈ BIG := inB (List.mem_of_getElem? (i := 893) rfl) rfl
theorem mv_X5_79 : MV RX5 79 yX5_joinedBits cX5_joinedBits 8 (some .int) 3 := ⟨inBi 890 (by decide +kernel), inBi 891 (by decide +kernel), inBi 892 (by decide +kernel), inBi 100 (by decide +kernel), cw_X5_joinedBits, by decide +kernel, by decide +kernel, by decide +kernel⟩
theorem fl_X5_83 : FL RX5 83 1 4 := ⟨RX1, TX1, 6, rfl, rfl, by decide, inU_X1, Or.inr ⟨_, inNi (w := .fieldLinkNest "PartedFellows$Optics" 83 "PartedFellows$College" "glasses" "I" "PartedFellows") 180 (by decide +kernel)⟩⟩
theorem fl_X5_28 : FL RX5 28 5 4 := ⟨RX5, TX5, 5, rfl, rfl, by decide, inU_X5, Or.inl (inBi 246 (by decide +kernel))⟩
theorem inU_X6 : ∀ w ∈ u_ws RX6 TX6 8, w ∈ BIG := by
  have h : u_ws RX6 TX6 8 = [401, 403, 405, 407, 409, 411, 413, 415].filterMap (fun i => lw_tbl[i]?) := by decide +kernel
  have g : (u_ws RX6 TX6 8).all goodWord = true := by decide +kernel
  intro w hw
  refine inB ?_ (List.all_eq_true.mp g w hw)
  rw [h] at hw
  obtain ⟨i, -, hi⟩ := List.mem_filterMap.mp hw
  exact List.mem_of_getElem? hi
theorem fl_X6_15 : FL RX6 15 6 1 := ⟨RX6, TX6, 8, rfl, rfl, by decide, inU_X6, Or.inl (inBi 392 (by decide +kernel))⟩
set_option maxRecDepth 20000 in
theorem cw_X0_isRight : Cond.code yX0_isRight cX0_isRight 4 (some .boolean) ∈ BIG := inB (List.mem_of_getElem? (i := 1149) rfl) rfl
theorem mv_X6_83 : MV RX6 83 yX0_isRight cX0_isRight 4 (some .boolean) 1 := ⟨inBi 1146 (by decide +kernel), inBi 1147 (by decide +kernel), inBi 1148 (by decide +kernel), inBi 99 (by decide +kernel), cw_X0_isRight, by decide +kernel, by decide +kernel, by decide +kernel⟩
theorem fl_X6_39 : FL RX6 39 6 6 := ⟨RX6, TX6, 8, rfl, rfl, by decide, inU_X6, Or.inl (inBi 397 (by decide +kernel))⟩
theorem fl_X6_32 : FL RX6 32 6 4 := ⟨RX6, TX6, 8, rfl, rfl, by decide, inU_X6, Or.inl (inBi 395 (by decide +kernel))⟩
theorem fl_X6_26 : FL RX6 26 6 3 := ⟨RX6, TX6, 8, rfl, rfl, by decide, inU_X6, Or.inl (inBi 394 (by decide +kernel))⟩
theorem fl_X6_19 : FL RX6 19 6 2 := ⟨RX6, TX6, 8, rfl, rfl, by decide, inU_X6, Or.inl (inBi 393 (by decide +kernel))⟩
theorem fl_X6_77 : FL RX6 77 2 2 := ⟨RX2, TX2, 6, rfl, rfl, by decide, inU_X2, Or.inr ⟨_, inNi (w := .fieldLinkNest "PartedFellows$Pairs" 77 "PartedFellows$Hall" "at" "[I" "PartedFellows") 318 (by decide +kernel)⟩⟩
theorem fl_X6_80 : FL RX6 80 2 1 := ⟨RX2, TX2, 6, rfl, rfl, by decide, inU_X2, Or.inr ⟨_, inNi (w := .fieldLinkNest "PartedFellows$Pairs" 80 "PartedFellows$Hall" "wall" "[I" "PartedFellows") 314 (by decide +kernel)⟩⟩
set_option maxRecDepth 20000 in
theorem cw_X5_partBy : Cond.code yX5_partBy cX5_partBy 7 (some .boolean) ∈ BIG := inB (List.mem_of_getElem? (i := 859) rfl) rfl
theorem mv_X6_72 : MV RX6 72 yX5_partBy cX5_partBy 7 (some .boolean) 3 := ⟨inBi 1145 (by decide +kernel), inBi 857 (by decide +kernel), inBi 858 (by decide +kernel), inBi 100 (by decide +kernel), cw_X5_partBy, by decide +kernel, by decide +kernel, by decide +kernel⟩
theorem mv_X6_68 : MV RX6 68 yX2_copyFrom cX2_copyFrom 2 none 1 := ⟨inBi 1144 (by decide +kernel), inBi 516 (by decide +kernel), inBi 517 (by decide +kernel), inBi 102 (by decide +kernel), cw_X2_copyFrom, by decide +kernel, by decide +kernel, by decide +kernel⟩
theorem ms_X6_62 : MS RX6 62 yJ7_fill_53178 cJ7_fill_53178 4 none 2 := ⟨Or.inl (inBi 1143 (by decide +kernel)), inBi 646 (by decide +kernel), inBi 112 (by decide +kernel), cw_J7_fill_53178, by decide +kernel, by decide +kernel, by decide +kernel⟩
theorem fp_X6_39 : FP RX6 39 6 6 := ⟨RX6, TX6, 8, tyX6, rfl, rfl, by decide, inU_X6, Or.inl (inBi 397 (by decide +kernel)), tyX6_ok, nmX6, rfl, by decide +kernel⟩
theorem fp_X6_43 : FP RX6 43 6 7 := ⟨RX6, TX6, 8, tyX6, rfl, rfl, by decide, inU_X6, Or.inl (inBi 399 (by decide +kernel)), tyX6_ok, nmX6, rfl, by decide +kernel⟩
theorem fl_X6_9 : FL RX6 9 6 0 := ⟨RX6, TX6, 8, rfl, rfl, by decide, inU_X6, Or.inl (inBi 391 (by decide +kernel))⟩
theorem fl_X6_46 : FL RX6 46 1 3 := ⟨RX1, TX1, 6, rfl, rfl, by decide, inU_X1, Or.inr ⟨_, inNi (w := .fieldLinkNest "PartedFellows$Pairs" 46 "PartedFellows$College" "fellows" "I" "PartedFellows") 171 (by decide +kernel)⟩⟩
theorem fl_X6_51 : FL RX6 51 1 4 := ⟨RX1, TX1, 6, rfl, rfl, by decide, inU_X1, Or.inr ⟨_, inNi (w := .fieldLinkNest "PartedFellows$Pairs" 51 "PartedFellows$College" "glasses" "I" "PartedFellows") 176 (by decide +kernel)⟩⟩
theorem fl_X6_43 : FL RX6 43 6 7 := ⟨RX6, TX6, 8, rfl, rfl, by decide, inU_X6, Or.inl (inBi 399 (by decide +kernel))⟩
set_option maxRecDepth 20000 in
theorem cw_X6_fitsBook : Cond.code yX6_fitsBook cX6_fitsBook 7 (some .boolean) ∈ BIG := inB (List.mem_of_getElem? (i := 1142) rfl) rfl
theorem mv_X6_58 : MV RX6 58 yX6_fitsBook cX6_fitsBook 7 (some .boolean) 3 := ⟨inBi 1139 (by decide +kernel), inBi 1141 (by decide +kernel), inBi 21 (by decide +kernel), inBi 105 (by decide +kernel), cw_X6_fitsBook, by decide +kernel, by decide +kernel, by decide +kernel⟩
theorem mv_X6_54 : MV RX6 54 yX1_parts cX1_parts 2 (some .boolean) 1 := ⟨inBi 1138 (by decide +kernel), inBi 861 (by decide +kernel), inBi 862 (by decide +kernel), inBi 97 (by decide +kernel), cw_X1_parts, by decide +kernel, by decide +kernel, by decide +kernel⟩
theorem fl_X6_35 : FL RX6 35 6 5 := ⟨RX6, TX6, 8, rfl, rfl, by decide, inU_X6, Or.inl (inBi 396 (by decide +kernel))⟩
set_option maxRecDepth 20000 in
theorem cw_X2_isBlurred : Cond.code yX2_isBlurred cX2_isBlurred 4 (some .boolean) ∈ BIG := inB (List.mem_of_getElem? (i := 1266) rfl) rfl
theorem mv_X6_95 : MV RX6 95 yX2_isBlurred cX2_isBlurred 4 (some .boolean) 1 := ⟨inBi 1263 (by decide +kernel), inBi 1264 (by decide +kernel), inBi 1265 (by decide +kernel), inBi 102 (by decide +kernel), cw_X2_isBlurred, by decide +kernel, by decide +kernel, by decide +kernel⟩
theorem inU_X9 : ∀ w ∈ u_ws RX9 TX9 4, w ∈ BIG := by
  have h : u_ws RX9 TX9 4 = [431, 433, 435, 437].filterMap (fun i => lw_tbl[i]?) := by decide +kernel
  have g : (u_ws RX9 TX9 4).all goodWord = true := by decide +kernel
  intro w hw
  refine inB ?_ (List.all_eq_true.mp g w hw)
  rw [h] at hw
  obtain ⟨i, -, hi⟩ := List.mem_filterMap.mp hw
  exact List.mem_of_getElem? hi
theorem fl_X9_30 : FL RX9 30 9 3 := ⟨RX9, TX9, 4, rfl, rfl, by decide, inU_X9, Or.inl (inBi 430 (by decide +kernel))⟩
theorem fp_X9_30 : FP RX9 30 9 3 := ⟨RX9, TX9, 4, tyX9, rfl, rfl, by decide, inU_X9, Or.inl (inBi 430 (by decide +kernel)), tyX9_ok, nmX9, rfl, by decide +kernel⟩
theorem fl_X9_9 : FL RX9 9 9 0 := ⟨RX9, TX9, 4, rfl, rfl, by decide, inU_X9, Or.inl (inBi 426 (by decide +kernel))⟩
theorem fl_X9_34 : FL RX9 34 1 3 := ⟨RX1, TX1, 6, rfl, rfl, by decide, inU_X1, Or.inr ⟨_, inNi (w := .fieldLinkNest "PartedFellows$Term" 34 "PartedFellows$College" "fellows" "I" "PartedFellows") 172 (by decide +kernel)⟩⟩
theorem fl_X9_39 : FL RX9 39 1 4 := ⟨RX1, TX1, 6, rfl, rfl, by decide, inU_X1, Or.inr ⟨_, inNi (w := .fieldLinkNest "PartedFellows$Term" 39 "PartedFellows$College" "glasses" "I" "PartedFellows") 177 (by decide +kernel)⟩⟩
theorem fl_X9_15 : FL RX9 15 9 1 := ⟨RX9, TX9, 4, rfl, rfl, by decide, inU_X9, Or.inl (inBi 427 (by decide +kernel))⟩
theorem fl_X9_22 : FL RX9 22 9 2 := ⟨RX9, TX9, 4, rfl, rfl, by decide, inU_X9, Or.inl (inBi 428 (by decide +kernel))⟩
set_option maxRecDepth 20000 in
theorem cw_X5_joinBy : Cond.code yX5_joinBy cX5_joinBy 7 (some .boolean) ∈ BIG := inB (List.mem_of_getElem? (i := 889) rfl) rfl
theorem mv_X9_62 : MV RX9 62 yX5_joinBy cX5_joinBy 7 (some .boolean) 3 := ⟨inBi 1320 (by decide +kernel), inBi 887 (by decide +kernel), inBi 888 (by decide +kernel), inBi 100 (by decide +kernel), cw_X5_joinBy, by decide +kernel, by decide +kernel, by decide +kernel⟩
theorem mv_X9_56 : MV RX9 56 yX5_partBy cX5_partBy 7 (some .boolean) 3 := ⟨inBi 1319 (by decide +kernel), inBi 857 (by decide +kernel), inBi 858 (by decide +kernel), inBi 100 (by decide +kernel), cw_X5_partBy, by decide +kernel, by decide +kernel, by decide +kernel⟩
set_option maxRecDepth 20000 in
theorem cw_X9_draw : Cond.code yX9_draw cX9_draw 2 (some .int) ∈ BIG := inB (List.mem_of_getElem? (i := 1317) rfl) rfl
theorem mv_X9_52 : MV RX9 52 yX9_draw cX9_draw 2 (some .int) 1 := ⟨inBi 1314 (by decide +kernel), inBi 1316 (by decide +kernel), inBi 24 (by decide +kernel), inBi 106 (by decide +kernel), cw_X9_draw, by decide +kernel, by decide +kernel, by decide +kernel⟩
set_option maxRecDepth 20000 in
theorem cw_X2_takeOut : Cond.code yX2_takeOut cX2_takeOut 3 (some .boolean) ∈ BIG := inB (List.mem_of_getElem? (i := 897) rfl) rfl
theorem mv_X9_65 : MV RX9 65 yX2_takeOut cX2_takeOut 3 (some .boolean) 2 := ⟨inBi 1325 (by decide +kernel), inBi 895 (by decide +kernel), inBi 896 (by decide +kernel), inBi 102 (by decide +kernel), cw_X2_takeOut, by decide +kernel, by decide +kernel, by decide +kernel⟩
set_option maxRecDepth 20000 in
theorem cw_X2_passDay : Cond.code yX2_passDay cX2_passDay 2 none ∈ BIG := inB (List.mem_of_getElem? (i := 909) rfl) rfl
theorem mv_X9_49 : MV RX9 49 yX2_passDay cX2_passDay 2 none 0 := ⟨inBi 1326 (by decide +kernel), inBi 907 (by decide +kernel), inBi 908 (by decide +kernel), inBi 102 (by decide +kernel), cw_X2_passDay, by decide +kernel, by decide +kernel, by decide +kernel⟩
set_option maxRecDepth 20000 in
theorem cw_X9_loseByChance : Cond.code yX9_loseByChance cX9_loseByChance 4 none ∈ BIG := inB (List.mem_of_getElem? (i := 1324) rfl) rfl
theorem mv_X9_45 : MV RX9 45 yX9_loseByChance cX9_loseByChance 4 none 1 := ⟨inBi 1321 (by decide +kernel), inBi 1323 (by decide +kernel), inBi 25 (by decide +kernel), inBi 106 (by decide +kernel), cw_X9_loseByChance, by decide +kernel, by decide +kernel, by decide +kernel⟩
set_option maxRecDepth 20000 in
theorem cw_X9_passThroughGlass : Cond.code yX9_passThroughGlass cX9_passThroughGlass 3 none ∈ BIG := inB (List.mem_of_getElem? (i := 1313) rfl) rfl
theorem mv_X9_42 : MV RX9 42 yX9_passThroughGlass cX9_passThroughGlass 3 none 0 := ⟨inBi 1310 (by decide +kernel), inBi 1312 (by decide +kernel), inBi 23 (by decide +kernel), inBi 106 (by decide +kernel), cw_X9_passThroughGlass, by decide +kernel, by decide +kernel, by decide +kernel⟩
theorem mv_X9_26 : MV RX9 26 yX2_copyFrom cX2_copyFrom 2 none 1 := ⟨inBi 1309 (by decide +kernel), inBi 516 (by decide +kernel), inBi 517 (by decide +kernel), inBi 102 (by decide +kernel), cw_X2_copyFrom, by decide +kernel, by decide +kernel, by decide +kernel⟩
theorem inU_X10 : ∀ w ∈ u_ws RX10 TX10 12, w ∈ BIG := by
  have h : u_ws RX10 TX10 12 = [279, 281, 283, 285, 287, 289, 291, 293, 295, 297, 299, 301].filterMap (fun i => lw_tbl[i]?) := by decide +kernel
  have g : (u_ws RX10 TX10 12).all goodWord = true := by decide +kernel
  intro w hw
  refine inB ?_ (List.all_eq_true.mp g w hw)
  rw [h] at hw
  obtain ⟨i, -, hi⟩ := List.mem_filterMap.mp hw
  exact List.mem_of_getElem? hi
theorem fl_X10_30 : FL RX10 30 10 5 := ⟨RX10, TX10, 12, rfl, rfl, by decide, inU_X10, Or.inl (inBi 269 (by decide +kernel))⟩
theorem fl_X10_9 : FL RX10 9 10 0 := ⟨RX10, TX10, 12, rfl, rfl, by decide, inU_X10, Or.inl (inBi 264 (by decide +kernel))⟩
theorem fl_X10_15 : FL RX10 15 10 1 := ⟨RX10, TX10, 12, rfl, rfl, by decide, inU_X10, Or.inl (inBi 265 (by decide +kernel))⟩
theorem fl_X10_102 : FL RX10 102 1 4 := ⟨RX1, TX1, 6, rfl, rfl, by decide, inU_X1, Or.inr ⟨_, inNi (w := .fieldLinkNest "PartedFellows$Work" 102 "PartedFellows$College" "glasses" "I" "PartedFellows") 179 (by decide +kernel)⟩⟩
theorem mv_X10_86 : MV RX10 86 yX8_number cX8_number 5 (some .int) 2 := ⟨inBi 833 (by decide +kernel), inBi 728 (by decide +kernel), inBi 729 (by decide +kernel), inBi 96 (by decide +kernel), cw_X8_number, by decide +kernel, by decide +kernel, by decide +kernel⟩
theorem fl_X10_27 : FL RX10 27 10 4 := ⟨RX10, TX10, 12, rfl, rfl, by decide, inU_X10, Or.inl (inBi 268 (by decide +kernel))⟩
theorem fl_X10_97 : FL RX10 97 1 3 := ⟨RX1, TX1, 6, rfl, rfl, by decide, inU_X1, Or.inr ⟨_, inNi (w := .fieldLinkNest "PartedFellows$Work" 97 "PartedFellows$College" "fellows" "I" "PartedFellows") 175 (by decide +kernel)⟩⟩
theorem fl_X10_33 : FL RX10 33 10 6 := ⟨RX10, TX10, 12, rfl, rfl, by decide, inU_X10, Or.inl (inBi 270 (by decide +kernel))⟩
theorem mv_X10_82 : MV RX10 82 yX8_fail cX8_fail 3 (some .boolean) 2 := ⟨inBi 832 (by decide +kernel), inBi 719 (by decide +kernel), inBi 720 (by decide +kernel), inBi 96 (by decide +kernel), cw_X8_fail, by decide +kernel, by decide +kernel, by decide +kernel⟩
theorem mv_X10_90 : MV RX10 90 yX8_isWhole cX8_isWhole 1 (some .boolean) 0 := ⟨inBi 834 (by decide +kernel), inBi 747 (by decide +kernel), inBi 748 (by decide +kernel), inBi 96 (by decide +kernel), cw_X8_isWhole, by decide +kernel, by decide +kernel, by decide +kernel⟩
theorem fl_X10_36 : FL RX10 36 10 7 := ⟨RX10, TX10, 12, rfl, rfl, by decide, inU_X10, Or.inl (inBi 271 (by decide +kernel))⟩
theorem fl_X10_39 : FL RX10 39 10 8 := ⟨RX10, TX10, 12, rfl, rfl, by decide, inU_X10, Or.inl (inBi 272 (by decide +kernel))⟩
theorem fp_X10_39 : FP RX10 39 10 8 := ⟨RX10, TX10, 12, tyX10, rfl, rfl, by decide, inU_X10, Or.inl (inBi 272 (by decide +kernel)), tyX10_ok, nmX10, rfl, by decide +kernel⟩
theorem fl_X10_23 : FL RX10 23 10 3 := ⟨RX10, TX10, 12, rfl, rfl, by decide, inU_X10, Or.inl (inBi 267 (by decide +kernel))⟩
set_option maxRecDepth 20000 in
theorem cw_X10_readNumbers : Cond.code yX10_readNumbers cX10_readNumbers 3 none ∈ BIG := inB (List.mem_of_getElem? (i := 839) rfl) rfl
theorem mv_X10_93 : MV RX10 93 yX10_readNumbers cX10_readNumbers 3 none 2 := ⟨inBi 836 (by decide +kernel), inBi 838 (by decide +kernel), inBi 12 (by decide +kernel), inBi 101 (by decide +kernel), cw_X10_readNumbers, by decide +kernel, by decide +kernel, by decide +kernel⟩
theorem mv_X10_69 : MV RX10 69 yX8_wants cX8_wants 2 (some .boolean) 1 := ⟨inBi 835 (by decide +kernel), inBi 739 (by decide +kernel), inBi 740 (by decide +kernel), inBi 96 (by decide +kernel), cw_X8_wants, by decide +kernel, by decide +kernel, by decide +kernel⟩
set_option maxRecDepth 20000 in
theorem cw_X10_readSteps : Cond.code yX10_readSteps cX10_readSteps 3 (some .boolean) ∈ BIG := inB (List.mem_of_getElem? (i := 819) rfl) rfl
theorem mv_X10_52 : MV RX10 52 yX10_readSteps cX10_readSteps 3 (some .boolean) 1 := ⟨inBi 816 (by decide +kernel), inBi 818 (by decide +kernel), inBi 10 (by decide +kernel), inBi 101 (by decide +kernel), cw_X10_readSteps, by decide +kernel, by decide +kernel, by decide +kernel⟩
theorem mv_X10_78 : MV RX10 78 yX8_word cX8_word 6 (some .int) 1 := ⟨inBi 831 (by decide +kernel), inBi 663 (by decide +kernel), inBi 664 (by decide +kernel), inBi 96 (by decide +kernel), cw_X8_word, by decide +kernel, by decide +kernel, by decide +kernel⟩
theorem mv_X10_72 : MV RX10 72 yX8_next cX8_next 1 (some .int) 0 := ⟨inBi 829 (by decide +kernel), inBi 653 (by decide +kernel), inBi 654 (by decide +kernel), inBi 96 (by decide +kernel), cw_X8_next, by decide +kernel, by decide +kernel, by decide +kernel⟩
set_option maxRecDepth 20000 in
theorem cw_X10_readStep : Cond.code yX10_readStep cX10_readStep 6 (some .boolean) ∈ BIG := inB (List.mem_of_getElem? (i := 828) rfl) rfl
theorem mv_X10_66 : MV RX10 66 yX10_readStep cX10_readStep 6 (some .boolean) 1 := ⟨inBi 825 (by decide +kernel), inBi 827 (by decide +kernel), inBi 11 (by decide +kernel), inBi 101 (by decide +kernel), cw_X10_readStep, by decide +kernel, by decide +kernel, by decide +kernel⟩
set_option maxRecDepth 20000 in
theorem cw_X8_sees : Cond.code yX8_sees cX8_sees 2 (some .boolean) ∈ BIG := inB (List.mem_of_getElem? (i := 824) rfl) rfl
theorem mv_X10_62 : MV RX10 62 yX8_sees cX8_sees 2 (some .boolean) 1 := ⟨inBi 821 (by decide +kernel), inBi 822 (by decide +kernel), inBi 823 (by decide +kernel), inBi 96 (by decide +kernel), cw_X8_sees, by decide +kernel, by decide +kernel, by decide +kernel⟩
theorem mv_X10_56 : MV RX10 56 yX8_ended cX8_ended 1 (some .boolean) 0 := ⟨inBi 820 (by decide +kernel), inBi 649 (by decide +kernel), inBi 650 (by decide +kernel), inBi 96 (by decide +kernel), cw_X8_ended, by decide +kernel, by decide +kernel, by decide +kernel⟩
theorem fp_X10_43 : FP RX10 43 10 9 := ⟨RX10, TX10, 12, tyX10, rfl, rfl, by decide, inU_X10, Or.inl (inBi 274 (by decide +kernel)), tyX10_ok, nmX10, rfl, by decide +kernel⟩
theorem fp_X10_46 : FP RX10 46 10 10 := ⟨RX10, TX10, 12, tyX10, rfl, rfl, by decide, inU_X10, Or.inl (inBi 275 (by decide +kernel)), tyX10_ok, nmX10, rfl, by decide +kernel⟩
theorem fp_X10_49 : FP RX10 49 10 11 := ⟨RX10, TX10, 12, tyX10, rfl, rfl, by decide, inU_X10, Or.inl (inBi 277 (by decide +kernel)), tyX10_ok, nmX10, rfl, by decide +kernel⟩
theorem fl_X10_19 : FL RX10 19 10 2 := ⟨RX10, TX10, 12, rfl, rfl, by decide, inU_X10, Or.inl (inBi 266 (by decide +kernel))⟩
theorem mv_X10_118 : MV RX10 118 yX5_partBy cX5_partBy 7 (some .boolean) 3 := ⟨inBi 856 (by decide +kernel), inBi 857 (by decide +kernel), inBi 858 (by decide +kernel), inBi 100 (by decide +kernel), cw_X5_partBy, by decide +kernel, by decide +kernel, by decide +kernel⟩
theorem mv_X10_124 : MV RX10 124 yX5_joinBy cX5_joinBy 7 (some .boolean) 3 := ⟨inBi 886 (by decide +kernel), inBi 887 (by decide +kernel), inBi 888 (by decide +kernel), inBi 100 (by decide +kernel), cw_X5_joinBy, by decide +kernel, by decide +kernel, by decide +kernel⟩
theorem mv_X10_127 : MV RX10 127 yX2_takeOut cX2_takeOut 3 (some .boolean) 2 := ⟨inBi 894 (by decide +kernel), inBi 895 (by decide +kernel), inBi 896 (by decide +kernel), inBi 102 (by decide +kernel), cw_X2_takeOut, by decide +kernel, by decide +kernel, by decide +kernel⟩
set_option maxRecDepth 20000 in
theorem cw_X2_giveBack : Cond.code yX2_giveBack cX2_giveBack 3 (some .boolean) ∈ BIG := inB (List.mem_of_getElem? (i := 901) rfl) rfl
theorem mv_X10_132 : MV RX10 132 yX2_giveBack cX2_giveBack 3 (some .boolean) 2 := ⟨inBi 898 (by decide +kernel), inBi 899 (by decide +kernel), inBi 900 (by decide +kernel), inBi 102 (by decide +kernel), cw_X2_giveBack, by decide +kernel, by decide +kernel, by decide +kernel⟩
set_option maxRecDepth 20000 in
theorem cw_X2_change : Cond.code yX2_change cX2_change 4 (some .boolean) ∈ BIG := inB (List.mem_of_getElem? (i := 905) rfl) rfl
theorem mv_X10_135 : MV RX10 135 yX2_change cX2_change 4 (some .boolean) 2 := ⟨inBi 902 (by decide +kernel), inBi 903 (by decide +kernel), inBi 904 (by decide +kernel), inBi 102 (by decide +kernel), cw_X2_change, by decide +kernel, by decide +kernel, by decide +kernel⟩
theorem fl_X10_138 : FL RX10 138 2 5 := ⟨RX2, TX2, 6, rfl, rfl, by decide, inU_X2, Or.inr ⟨_, inNi (w := .fieldLinkNest "PartedFellows$Work" 138 "PartedFellows$Hall" "day" "I" "PartedFellows") 329 (by decide +kernel)⟩⟩
theorem mv_X10_141 : MV RX10 141 yX2_passDay cX2_passDay 2 none 0 := ⟨inBi 906 (by decide +kernel), inBi 907 (by decide +kernel), inBi 908 (by decide +kernel), inBi 102 (by decide +kernel), cw_X2_passDay, by decide +kernel, by decide +kernel, by decide +kernel⟩
theorem fl_X10_43 : FL RX10 43 10 9 := ⟨RX10, TX10, 12, rfl, rfl, by decide, inU_X10, Or.inl (inBi 274 (by decide +kernel))⟩
theorem fl_X10_49 : FL RX10 49 10 11 := ⟨RX10, TX10, 12, rfl, rfl, by decide, inU_X10, Or.inl (inBi 277 (by decide +kernel))⟩
theorem fl_X10_46 : FL RX10 46 10 10 := ⟨RX10, TX10, 12, rfl, rfl, by decide, inU_X10, Or.inl (inBi 275 (by decide +kernel))⟩
set_option maxRecDepth 20000 in
theorem cw_X10_isDone : Cond.code yX10_isDone cX10_isDone 6 (some .boolean) ∈ BIG := inB (List.mem_of_getElem? (i := 855) rfl) rfl
theorem mv_X10_114 : MV RX10 114 yX10_isDone cX10_isDone 6 (some .boolean) 2 := ⟨inBi 852 (by decide +kernel), inBi 854 (by decide +kernel), inBi 14 (by decide +kernel), inBi 101 (by decide +kernel), cw_X10_isDone, by decide +kernel, by decide +kernel, by decide +kernel⟩
set_option maxRecDepth 20000 in
theorem cw_X10_perform : Cond.code yX10_perform cX10_perform 8 none ∈ BIG := inB (List.mem_of_getElem? (i := 847) rfl) rfl
theorem mv_X10_105 : MV RX10 105 yX10_perform cX10_perform 8 none 4 := ⟨inBi 848 (by decide +kernel), inBi 846 (by decide +kernel), inBi 13 (by decide +kernel), inBi 101 (by decide +kernel), cw_X10_perform, by decide +kernel, by decide +kernel, by decide +kernel⟩
def fX5_bounded_j32 (sh : Shp) (s0 : Int32) (mm : Mem) : Option (Int32) :=
  some s0
def fX5_bounded (sh : Shp) (x0 : Nat) (x1 : Int32) (mm : Mem) : Option (Int32) :=
  if 0 ≤ x1 then ((rR sh 5 x0 0).bind fun a2 =>
  (rI sh mm 1 a2 5).bind fun v3 =>
  if v3 ≤ x1 then ((rR sh 5 x0 0).bind fun a5 =>
  (rI sh mm 1 a5 5).bind fun v6 =>
  fX5_bounded_j32 sh (v6 - 1) mm)
  else (fX5_bounded_j32 sh x1 mm))
  else (fX5_bounded_j32 sh 0 mm)
def fX5_turnOf (sh : Shp) (x0 : Nat) (x1 : Nat) (x2 : Int32) (x3 : Int32) (x4 : Int32) (x5 : Int32) (mm : Mem) : Option (Int32 × Mem) :=
  (rR sh 5 x0 2).bind fun a1 =>
  (aS sh mm a1 0 x3).bind fun m2 =>
  (rR sh 5 x0 2).bind fun a3 =>
  (aS sh m2 a3 1 x5).bind fun m4 =>
  (rR sh 5 x0 2).bind fun a5 =>
  (rR sh 5 x0 0).bind fun a6 =>
  (rR sh 1 a6 1).bind fun a7 =>
  (aL sh m4 a7 x4).bind fun v8 =>
  (aS sh m4 a5 2 v8).bind fun m9 =>
  (rR sh 5 x0 2).bind fun a10 =>
  (isO sh 2 x1).bind fun _ =>
  (fX2_allWithin sh x1 x2 m9).bind fun v11 =>
  (aS sh m9 a10 3 v11).bind fun m12 =>
  (rR sh 5 x0 2).bind fun a13 =>
  (rR sh 2 x1 3).bind fun a14 =>
  (aL sh m12 a14 ((x2 * 7) + x3)).bind fun v15 =>
  (aS sh m12 a13 4 v15).bind fun m16 =>
  (rR sh 5 x0 2).bind fun a17 =>
  (rR sh 2 x1 4).bind fun a18 =>
  (aL sh m16 a18 x2).bind fun v19 =>
  (aS sh m16 a17 5 v19).bind fun m20 =>
  (rR sh 5 x0 2).bind fun a21 =>
  (rI sh m20 2 x1 5).bind fun v22 =>
  (aS sh m20 a21 6 v22).bind fun m23 =>
  (rR sh 5 x0 2).bind fun a24 =>
  (aS sh m23 a24 7 x2).bind fun m25 =>
  (rR sh 5 x0 1).bind fun a26 =>
  (rR sh 5 x0 2).bind fun a27 =>
  (isO sh 4 a26).bind fun _ =>
  bd2 (fX4_valueFor sh a26 a27 m25) fun v28 m29 =>
  (isO sh 5 x0).bind fun _ =>
  (fX5_bounded sh x0 v28 m29).bind fun v30 =>
  some (v30, m29)
def fX5_partBy_j19 (sh : Shp) (mm : Mem) : Option (Int32 × Mem) :=
  some (0, mm)
def fX5_partBy_j141 (sh : Shp) (x1 : Nat) (x2 : Int32) (mm : Mem) : Option (Int32 × Mem) :=
  (rR sh 2 x1 4).bind fun a1 =>
  (aL sh mm a1 x2).bind fun v2 =>
  (aS sh mm a1 x2 (v2 + 1)).bind fun m3 =>
  some (1, m3)
def fX5_partBy_j135 (sh : Shp) (x0 : Nat) (x1 : Nat) (x2 : Int32) (x4 : Int32) (x5 : Int32) (mm : Mem) : Option ((Int32 × Mem) ⊕ ((Mem))) :=
  lt1 (x5 + 1) fun x5_5 =>
  some (.inl (x5_5, mm))
def fX5_partBy_b72 (sh : Shp) (x0 : Nat) (x1 : Nat) (x2 : Int32) (x4 : Int32) (x5 : Int32) (mm : Mem) : Option ((Int32 × Mem) ⊕ ((Mem))) :=
  if 7 ≤ x5 then (some (.inr mm))
  else (lt1 (x4 + x5) fun x6_7 =>
  (rR sh 2 x1 0).bind fun a8 =>
  (aL sh mm a8 x6_7).bind fun v9 =>
  if v9 ≤ 0 then (fX5_partBy_j135 sh x0 x1 x2 x4 x5 mm)
  else ((rR sh 2 x1 1).bind fun a11 =>
  (aL sh mm a11 x6_7).bind fun v12 =>
  (rR sh 2 x1 0).bind fun a13 =>
  (aL sh mm a13 x6_7).bind fun v14 =>
  (aS sh mm a11 x6_7 (v12 + v14)).bind fun m15 =>
  (rR sh 2 x1 2).bind fun a16 =>
  (rR sh 5 x0 3).bind fun a17 =>
  (aL sh m15 a17 x5).bind fun v18 =>
  (aS sh m15 a16 x6_7 v18).bind fun m19 =>
  (rR sh 2 x1 0).bind fun a20 =>
  (aS sh m19 a20 x6_7 0).bind fun m21 =>
  fX5_partBy_j135 sh x0 x1 x2 x4 x5 m21))
def fX5_partBy_j69 (sh : Shp) (x0 : Nat) (x1 : Nat) (x2 : Int32) (x4 : Int32) (mm : Mem) : Option (Int32 × Mem) :=
  lt1 0 fun x5_4 =>
  (loopN (fun st : Int32 × Mem => fX5_partBy_b72 sh x0 x1 x2 x4 st.1 st.2) FU (x5_4, mm)).bind (fun t => fX5_partBy_j141 sh x1 x2 t)
def fX5_partBy_b30 (sh : Shp) (x0 : Nat) (x1 : Nat) (x2 : Int32) (x3 : Int32) (x4 : Int32) (x5 : Int32) (mm : Mem) : Option ((Int32 × Mem) ⊕ ((Mem))) :=
  if 7 ≤ x5 then (some (.inr mm))
  else ((rR sh 5 x0 3).bind fun a30 =>
  (rR sh 2 x1 0).bind fun a31 =>
  (aL sh mm a31 (x4 + x5)).bind fun v32 =>
  (isO sh 5 x0).bind fun _ =>
  bd2 (fX5_turnOf sh x0 x1 x2 x5 x3 v32 mm) fun v33 m34 =>
  (aS sh m34 a30 x5 v33).bind fun m35 =>
  lt1 (x5 + 1) fun x5_36 =>
  some (.inl (x5_36, m35)))
def fX5_partBy (sh : Shp) (x0 : Nat) (x1 : Nat) (x2 : Int32) (x3 : Int32) (mm : Mem) : Option (Int32 × Mem) :=
  (rR sh 5 x0 0).bind fun a22 =>
  (isO sh 1 a22).bind fun _ =>
  (fX1_parts sh a22 x3 mm).bind fun v23 =>
  if v23 = 0 then (fX5_partBy_j19 sh mm)
  else ((isO sh 2 x1).bind fun _ =>
  (fX2_allWithin sh x1 x2 mm).bind fun v25 =>
  if v25 = 0 then (fX5_partBy_j19 sh mm)
  else (lt1 (x2 * 7) fun x4_27 =>
  lt1 0 fun x5_28 =>
  (loopN (fun st : Int32 × Mem => fX5_partBy_b30 sh x0 x1 x2 x3 x4_27 st.1 st.2) FU (x5_28, mm)).bind (fun t => fX5_partBy_j69 sh x0 x1 x2 x4_27 t)))
def fX5_joinedBits_j83 (sh : Shp) (x4 : Int32) (mm : Mem) : Option (Int32 × Mem) :=
  some (x4, mm)
def fX5_joinedBits_j77 (sh : Shp) (x0 : Nat) (x1 : Nat) (x2 : Int32) (x3 : Int32) (x4 : Int32) (x5 : Int32) (mm : Mem) : Option ((Int32 × Int32 × Mem) ⊕ ((Int32 × Mem))) :=
  lt1 (x5 + 1) fun x5_3 =>
  some (.inl (x4, x5_3, mm))
def fX5_joinedBits_b6 (sh : Shp) (x0 : Nat) (x1 : Nat) (x2 : Int32) (x3 : Int32) (x4 : Int32) (x5 : Int32) (mm : Mem) : Option ((Int32 × Int32 × Mem) ⊕ ((Int32 × Mem))) :=
  if 7 ≤ x5 then (some (.inr (x4, mm)))
  else ((rR sh 5 x0 0).bind fun a5 =>
  (isO sh 1 a5).bind fun _ =>
  (fX1_parts sh a5 x3 mm).bind fun v6 =>
  if v6 = 0 then (lt1 ((x2 * 7) + x5) fun x6_8 =>
  (rR sh 2 x1 1).bind fun a9 =>
  (aL sh mm a9 x6_8).bind fun v10 =>
  lt1 v10 fun x7_11 =>
  if x7_11 ≤ 0 then (fX5_joinedBits_j77 sh x0 x1 x2 x3 x4 x5 mm)
  else ((rR sh 2 x1 2).bind fun a13 =>
  (aL sh mm a13 x6_8).bind fun v14 =>
  (isO sh 5 x0).bind fun _ =>
  bd2 (fX5_turnOf sh x0 x1 x2 x5 x3 x7_11 mm) fun v15 m16 =>
  if v14 = v15 then (lt1 (x4 ||| (1 <<< (x5 &&& 31))) fun x4_18 =>
  fX5_joinedBits_j77 sh x0 x1 x2 x3 x4_18 x5 m16)
  else (fX5_joinedBits_j77 sh x0 x1 x2 x3 x4 x5 m16)))
  else (some (.inr (x4, mm))))
def fX5_joinedBits (sh : Shp) (x0 : Nat) (x1 : Nat) (x2 : Int32) (x3 : Int32) (mm : Mem) : Option (Int32 × Mem) :=
  lt1 0 fun x4_1 =>
  lt1 0 fun x5_2 =>
  (loopN (fun st : Int32 × Int32 × Mem => fX5_joinedBits_b6 sh x0 x1 x2 x3 st.1 st.2.1 st.2.2) FU (x4_1, x5_2, mm)).bind (fun t => fX5_joinedBits_j83 sh t.1 t.2)
def fX5_joinBy_j80 (sh : Shp) (s0 : Int32) (mm : Mem) : Option (Int32 × Mem) :=
  (ckZ s0).bind fun v1 => some (v1, mm)
def fX5_joinBy_j70 (sh : Shp) (x4 : Int32) (mm : Mem) : Option (Int32 × Mem) :=
  if x4 = 0 then (fX5_joinBy_j80 sh 0 mm)
  else (fX5_joinBy_j80 sh 1 mm)
def fX5_joinBy_j64 (sh : Shp) (x1 : Nat) (x2 : Int32) (x4 : Int32) (x5 : Int32) (mm : Mem) : Option ((Int32 × Mem) ⊕ ((Mem))) :=
  lt1 (x5 + 1) fun x5_7 =>
  some (.inl (x5_7, mm))
def fX5_joinBy_b12 (sh : Shp) (x1 : Nat) (x2 : Int32) (x4 : Int32) (x5 : Int32) (mm : Mem) : Option ((Int32 × Mem) ⊕ ((Mem))) :=
  if 7 ≤ x5 then (some (.inr mm))
  else (lt1 ((x2 * 7) + x5) fun x6_9 =>
  if ((x4 >>> (x5 &&& 31)) &&& 1) = 1 then ((rR sh 2 x1 0).bind fun a11 =>
  (aL sh mm a11 x6_9).bind fun v12 =>
  (rR sh 2 x1 1).bind fun a13 =>
  (aL sh mm a13 x6_9).bind fun v14 =>
  (aS sh mm a11 x6_9 (v12 + v14)).bind fun m15 =>
  (rR sh 2 x1 1).bind fun a16 =>
  (aS sh m15 a16 x6_9 0).bind fun m17 =>
  fX5_joinBy_j64 sh x1 x2 x4 x5 m17)
  else (fX5_joinBy_j64 sh x1 x2 x4 x5 mm))
def fX5_joinBy (sh : Shp) (x0 : Nat) (x1 : Nat) (x2 : Int32) (x3 : Int32) (mm : Mem) : Option (Int32 × Mem) :=
  (isO sh 5 x0).bind fun _ =>
  bd2 (fX5_joinedBits sh x0 x1 x2 x3 mm) fun v3 m4 =>
  lt1 v3 fun x4_5 =>
  lt1 0 fun x5_6 =>
  (loopN (fun st : Int32 × Mem => fX5_joinBy_b12 sh x1 x2 x4_5 st.1 st.2) FU (x5_6, m4)).bind (fun t => fX5_joinBy_j70 sh x4_5 t)
def fX5_turnByAllGlasses_j48 (sh : Shp) (mm : Mem) : Option (Mem) :=
  some mm
def fX5_turnByAllGlasses_b3 (sh : Shp) (x0 : Nat) (x1 : Nat) (x2 : Int32) (x3 : Int32) (x4 : Int32) (mm : Mem) : Option ((Int32 × Mem) ⊕ ((Mem))) :=
  (rR sh 5 x0 0).bind fun a2 =>
  (rI sh mm 1 a2 4).bind fun v3 =>
  if v3 ≤ x4 then (some (.inr mm))
  else ((rR sh 5 x0 4).bind fun a5 =>
  (rR sh 2 x1 0).bind fun a6 =>
  (aL sh mm a6 ((x2 * 7) + x3)).bind fun v7 =>
  (isO sh 5 x0).bind fun _ =>
  bd2 (fX5_turnOf sh x0 x1 x2 x3 x4 v7 mm) fun v8 m9 =>
  (aS sh m9 a5 x4 v8).bind fun m10 =>
  lt1 (x4 + 1) fun x4_11 =>
  some (.inl (x4_11, m10)))
def fX5_turnByAllGlasses (sh : Shp) (x0 : Nat) (x1 : Nat) (x2 : Int32) (x3 : Int32) (mm : Mem) : Option (Mem) :=
  lt1 0 fun x4_1 =>
  (loopN (fun st : Int32 × Mem => fX5_turnByAllGlasses_b3 sh x0 x1 x2 x3 st.1 st.2) FU (x4_1, mm)).bind (fun t => fX5_turnByAllGlasses_j48 sh t)
def fX5_sumOfTurns_j52 (sh : Shp) (x2 : Int32) (mm : Mem) : Option (Int32) :=
  some x2
def fX5_sumOfTurns_j35 (sh : Shp) (mm : Mem) : Option (Int32) :=
  some (-1)
def fX5_sumOfTurns_j46 (sh : Shp) (x0 : Nat) (x1 : Int32) (x2 : Int32) (x3 : Int32) (mm : Mem) : Option ((Int32 × Int32) ⊕ ((Unit) ⊕ (Int32))) :=
  lt1 (x3 + 1) fun x3_3 =>
  some (.inl (x2, x3_3))
def fX5_sumOfTurns_b4 (sh : Shp) (x0 : Nat) (x1 : Int32) (x2 : Int32) (x3 : Int32) (mm : Mem) : Option ((Int32 × Int32) ⊕ ((Unit) ⊕ (Int32))) :=
  (rR sh 5 x0 0).bind fun a4 =>
  (rI sh mm 1 a4 4).bind fun v5 =>
  if v5 ≤ x3 then (some (.inr (Sum.inr (x2))))
  else (if ((x1 >>> (x3 &&& 31)) &&& 1) = 1 then ((rR sh 5 x0 0).bind fun a8 =>
  (isO sh 1 a8).bind fun _ =>
  (fX1_parts sh a8 x3 mm).bind fun v9 =>
  if v9 = 0 then (some (.inr (Sum.inl ())))
  else ((rR sh 5 x0 4).bind fun a11 =>
  (aL sh mm a11 x3).bind fun v12 =>
  lt1 (x2 + v12) fun x2_13 =>
  fX5_sumOfTurns_j46 sh x0 x1 x2_13 x3 mm))
  else (fX5_sumOfTurns_j46 sh x0 x1 x2 x3 mm))
def fX5_sumOfTurns (sh : Shp) (x0 : Nat) (x1 : Int32) (mm : Mem) : Option (Int32) :=
  lt1 0 fun x2_1 =>
  lt1 0 fun x3_2 =>
  (loopN (fun st : Int32 × Int32 => fX5_sumOfTurns_b4 sh x0 x1 st.1 st.2 mm) FU (x2_1, x3_2)).bind (Sum.elim (fun t => fX5_sumOfTurns_j35 sh mm) (fun t => fX5_sumOfTurns_j52 sh t mm))
def fX6_fitsBook_j111 (sh : Shp) (x0 : Nat) (x4 : Nat) (mm : Mem) : Option (Int32 × Mem) :=
  (rR sh 6 x0 1).bind fun a1 =>
  (isO sh 0 a1).bind fun _ =>
  (fX0_isRight sh a1 x4 mm).bind fun v2 =>
  (ckZ v2).bind fun v3 => some (v3, mm)
def fX6_fitsBook_j105 (sh : Shp) (x0 : Nat) (x4 : Nat) (x5 : Int32) (mm : Mem) : Option ((Int32 × Mem) ⊕ ((Mem))) :=
  lt1 (x5 + 1) fun x5_20 =>
  some (.inl (x5_20, mm))
def fX6_fitsBook_b56 (sh : Shp) (x0 : Nat) (x4 : Nat) (x5 : Int32) (mm : Mem) : Option ((Int32 × Mem) ⊕ ((Mem))) :=
  if 42 ≤ x5 then (some (.inr mm))
  else ((rR sh 6 x0 3).bind fun a22 =>
  (rR sh 2 a22 2).bind fun a23 =>
  (aL sh mm a23 x5).bind fun v24 =>
  lt1 v24 fun x6_25 =>
  if x6_25 < 0 then (fX6_fitsBook_j105 sh x0 x4 x5 mm)
  else (if 99 ≤ x6_25 then (fX6_fitsBook_j105 sh x0 x4 x5 mm)
  else ((aL sh mm x4 x6_25).bind fun v28 =>
  (rR sh 6 x0 3).bind fun a29 =>
  (rR sh 2 a29 1).bind fun a30 =>
  (aL sh mm a30 x5).bind fun v31 =>
  (aS sh mm x4 x6_25 (v28 + v31)).bind fun m32 =>
  fX6_fitsBook_j105 sh x0 x4 x5 m32)))
def fX6_fitsBook (sh : Shp) (x0 : Nat) (x1 : Nat) (x2 : Int32) (x3 : Int32) (mm : Mem) : Option (Int32 × Mem) :=
  (rI sh mm 6 x0 6).bind fun v4 =>
  (rR sh 6 x0 4).bind fun a5 =>
  (aN sh a5).bind fun v6 =>
  if v4 < v6 then ((rR sh 6 x0 4).bind fun a8 =>
  (rI sh mm 6 x0 6).bind fun v9 =>
  (aR sh a8 v9).bind fun a10 =>
  lt1 a10 fun x4_11 =>
  (fJ7_fill_53178 sh x4_11 0 mm).bind fun m12 =>
  (rR sh 6 x0 3).bind fun a13 =>
  (isO sh 2 a13).bind fun _ =>
  (fX2_copyFrom sh a13 x1 m12).bind fun m14 =>
  (rR sh 6 x0 2).bind fun a15 =>
  (rR sh 6 x0 3).bind fun a16 =>
  (isO sh 5 a15).bind fun _ =>
  bd2 (fX5_partBy sh a15 a16 x2 x3 m14) fun v17 m18 =>
  lt1 0 fun x5_19 =>
  (loopN (fun st : Int32 × Mem => fX6_fitsBook_b56 sh x0 x4_11 st.1 st.2) FU (x5_19, m18)).bind (fun t => fX6_fitsBook_j111 sh x0 x4_11 t))
  else (some (0, mm))
def fX6_gather_j103 (sh : Shp) (mm : Mem) : Option (Mem) :=
  some mm
def fX6_gather_j97 (sh : Shp) (x0 : Nat) (x1 : Nat) (x2 : Int32) (mm : Mem) : Option ((Int32 × Mem) ⊕ ((Mem))) :=
  lt1 (x2 + 1) fun x2_4 =>
  some (.inl (x2_4, mm))
def fX6_gather_j91 (sh : Shp) (x0 : Nat) (x1 : Nat) (x2 : Int32) (x3 : Int32) (mm : Mem) : Option ((Int32 × Mem) ⊕ ((Mem))) :=
  lt1 (x3 + 1) fun x3_9 =>
  some (.inl (x3_9, mm))
def fX6_gather_j78 (sh : Shp) (x0 : Nat) (x1 : Nat) (x2 : Int32) (x3 : Int32) (s0 : Nat) (s1 : Int32) (mm : Mem) : Option ((Int32 × Mem) ⊕ ((Mem))) :=
  (wI sh mm 6 s0 7 s1).bind fun m10 =>
  (rI sh m10 6 x0 6).bind fun v11 =>
  (wI sh m10 6 x0 6 (v11 + 1)).bind fun m12 =>
  fX6_gather_j91 sh x0 x1 x2 x3 m12
def fX6_gather_b25 (sh : Shp) (x0 : Nat) (x1 : Nat) (x2 : Int32) (x3 : Int32) (mm : Mem) : Option ((Int32 × Mem) ⊕ ((Mem))) :=
  (rR sh 6 x0 0).bind fun a13 =>
  (rI sh mm 1 a13 4).bind fun v14 =>
  if v14 ≤ x3 then (some (.inr mm))
  else ((rR sh 6 x0 0).bind fun a16 =>
  (isO sh 1 a16).bind fun _ =>
  (fX1_parts sh a16 x3 mm).bind fun v17 =>
  if v17 = 0 then (fX6_gather_j91 sh x0 x1 x2 x3 mm)
  else ((isO sh 6 x0).bind fun _ =>
  bd2 (fX6_fitsBook sh x0 x1 x2 x3 mm) fun v19 m20 =>
  if v19 = 0 then (fX6_gather_j91 sh x0 x1 x2 x3 m20)
  else ((rI sh m20 6 x0 6).bind fun v22 =>
  if v22 = 0 then (fX6_gather_j78 sh x0 x1 x2 x3 x0 ((10 * x2) + x3) m20)
  else ((rI sh m20 6 x0 7).bind fun v24 =>
  fX6_gather_j78 sh x0 x1 x2 x3 x0 v24 m20))))
def fX6_gather_b12 (sh : Shp) (x0 : Nat) (x1 : Nat) (x2 : Int32) (mm : Mem) : Option ((Int32 × Mem) ⊕ ((Mem))) :=
  (rR sh 6 x0 0).bind fun a5 =>
  (rI sh mm 1 a5 3).bind fun v6 =>
  if v6 ≤ x2 then (some (.inr mm))
  else (lt1 0 fun x3_8 =>
  (loopN (fun st : Int32 × Mem => fX6_gather_b25 sh x0 x1 x2 st.1 st.2) FU (x3_8, mm)).bind (fun t => fX6_gather_j97 sh x0 x1 x2 t))
def fX6_gather (sh : Shp) (x0 : Nat) (x1 : Nat) (mm : Mem) : Option (Mem) :=
  (wI sh mm 6 x0 6 0).bind fun m1 =>
  (wI sh m1 6 x0 7 (-1)).bind fun m2 =>
  lt1 0 fun x2_3 =>
  (loopN (fun st : Int32 × Mem => fX6_gather_b12 sh x0 x1 st.1 st.2) FU (x2_3, m2)).bind (fun t => fX6_gather_j103 sh t)
def fX6_leftAtWorst_j115 (sh : Shp) (x2 : Int32) (mm : Mem) : Option (Int32 × Mem) :=
  some (x2, mm)
def fX6_leftAtWorst_j109 (sh : Shp) (x0 : Nat) (x1 : Int32) (x2 : Int32) (x3 : Int32) (mm : Mem) : Option ((Int32 × Mem) ⊕ ((Mem))) :=
  lt1 (x3 + 1) fun x3_2 =>
  some (.inl (x3_2, mm))
def fX6_leftAtWorst_b68 (sh : Shp) (x0 : Nat) (x1 : Int32) (x2 : Int32) (x3 : Int32) (mm : Mem) : Option ((Int32 × Mem) ⊕ ((Mem))) :=
  (rI sh mm 6 x0 6).bind fun v3 =>
  if v3 ≤ x3 then (some (.inr mm))
  else ((rR sh 6 x0 4).bind fun a5 =>
  (aR sh a5 x3).bind fun a6 =>
  (aL sh mm a6 x1).bind fun v7 =>
  lt1 v7 fun x4_8 =>
  if x4_8 < 0 then (fX6_leftAtWorst_j109 sh x0 x1 x2 x3 mm)
  else ((rR sh 6 x0 5).bind fun a10 =>
  (aN sh a10).bind fun v11 =>
  if v11 ≤ x4_8 then (fX6_leftAtWorst_j109 sh x0 x1 x2 x3 mm)
  else ((rR sh 6 x0 5).bind fun a13 =>
  (aS sh mm a13 x4_8 0).bind fun m14 =>
  fX6_leftAtWorst_j109 sh x0 x1 x2 x3 m14)))
def fX6_leftAtWorst_j66 (sh : Shp) (x0 : Nat) (x1 : Int32) (x2 : Int32) (mm : Mem) : Option (Int32 × Mem) :=
  lt1 0 fun x3_1 =>
  (loopN (fun st : Int32 × Mem => fX6_leftAtWorst_b68 sh x0 x1 x2 st.1 st.2) FU (x3_1, mm)).bind (fun t => fX6_leftAtWorst_j115 sh x2 t)
def fX6_leftAtWorst_j60 (sh : Shp) (x0 : Nat) (x1 : Int32) (x2 : Int32) (x3 : Int32) (mm : Mem) : Option ((Int32 × Int32 × Mem) ⊕ ((Int32 × Mem))) :=
  lt1 (x3 + 1) fun x3_17 =>
  some (.inl (x2, x3_17, mm))
def fX6_leftAtWorst_b4 (sh : Shp) (x0 : Nat) (x1 : Int32) (x2 : Int32) (x3 : Int32) (mm : Mem) : Option ((Int32 × Int32 × Mem) ⊕ ((Int32 × Mem))) :=
  (rI sh mm 6 x0 6).bind fun v18 =>
  if v18 ≤ x3 then (some (.inr (x2, mm)))
  else ((rR sh 6 x0 4).bind fun a20 =>
  (aR sh a20 x3).bind fun a21 =>
  (aL sh mm a21 x1).bind fun v22 =>
  lt1 v22 fun x4_23 =>
  if x4_23 < 0 then (fX6_leftAtWorst_j60 sh x0 x1 x2 x3 mm)
  else ((rR sh 6 x0 5).bind fun a25 =>
  (aN sh a25).bind fun v26 =>
  if v26 ≤ x4_23 then (fX6_leftAtWorst_j60 sh x0 x1 x2 x3 mm)
  else ((rR sh 6 x0 5).bind fun a28 =>
  (aL sh mm a28 x4_23).bind fun v29 =>
  (aS sh mm a28 x4_23 (v29 + 1)).bind fun m30 =>
  (rR sh 6 x0 5).bind fun a31 =>
  (aL sh m30 a31 x4_23).bind fun v32 =>
  lt1 (mxI x2 v32) fun x2_33 =>
  fX6_leftAtWorst_j60 sh x0 x1 x2_33 x3 m30)))
def fX6_leftAtWorst (sh : Shp) (x0 : Nat) (x1 : Int32) (mm : Mem) : Option (Int32 × Mem) :=
  lt1 0 fun x2_15 =>
  lt1 0 fun x3_16 =>
  (loopN (fun st : Int32 × Int32 × Mem => fX6_leftAtWorst_b4 sh x0 x1 st.1 st.2.1 st.2.2) FU (x2_15, x3_16, mm)).bind (fun t => fX6_leftAtWorst_j66 sh x0 x1 t.1 t.2)
def fX6_blursBy_j40 (sh : Shp) (s0 : Int32) (mm : Mem) : Option (Int32 × Mem) :=
  (ckZ s0).bind fun v1 => some (v1, mm)
def fX6_blursBy_j39 (sh : Shp) (mm : Mem) : Option (Int32 × Mem) :=
  fX6_blursBy_j40 sh 0 mm
def fX6_blursBy (sh : Shp) (x0 : Nat) (x1 : Nat) (x2 : Int32) (x3 : Int32) (mm : Mem) : Option (Int32 × Mem) :=
  (rR sh 6 x0 3).bind fun a2 =>
  (isO sh 2 a2).bind fun _ =>
  (fX2_copyFrom sh a2 x1 mm).bind fun m3 =>
  (rR sh 6 x0 2).bind fun a4 =>
  (rR sh 6 x0 3).bind fun a5 =>
  (isO sh 5 a4).bind fun _ =>
  bd2 (fX5_partBy sh a4 a5 x2 x3 m3) fun v6 m7 =>
  if v6 = 0 then (fX6_blursBy_j39 sh m7)
  else ((rR sh 6 x0 3).bind fun a9 =>
  (isO sh 2 a9).bind fun _ =>
  (fX2_isBlurred sh a9 x2 m7).bind fun v10 =>
  if v10 = 0 then (fX6_blursBy_j39 sh m7)
  else (fX6_blursBy_j40 sh 1 m7))
def fX9_draw_j37 (sh : Shp) (s0 : Int32) (mm : Mem) : Option (Int32 × Mem) :=
  some (s0, mm)
def fX9_draw (sh : Shp) (x0 : Nat) (x1 : Int32) (mm : Mem) : Option (Int32 × Mem) :=
  (rI sh mm 9 x0 3).bind fun v1 =>
  (wI sh mm 9 x0 3 ((v1 * 1103515245) + 12345)).bind fun m2 =>
  if 1 ≤ x1 then ((rI sh m2 9 x0 3).bind fun v4 =>
  (rmI ((uShr v4 16) &&& 32767) x1).bind fun v5 =>
  fX9_draw_j37 sh v5 m2)
  else (fX9_draw_j37 sh 0 m2)
def fX9_passThroughGlass_j54 (sh : Shp) (mm : Mem) : Option (Mem) :=
  some mm
def fX9_passThroughGlass (sh : Shp) (x0 : Nat) (mm : Mem) : Option (Mem) :=
  (rR sh 9 x0 0).bind fun a1 =>
  (rI sh mm 1 a1 3).bind fun v2 =>
  (isO sh 9 x0).bind fun _ =>
  bd2 (fX9_draw sh x0 v2 mm) fun v3 m4 =>
  lt1 v3 fun x1_5 =>
  (rR sh 9 x0 0).bind fun a6 =>
  (rI sh m4 1 a6 4).bind fun v7 =>
  (isO sh 9 x0).bind fun _ =>
  bd2 (fX9_draw sh x0 v7 m4) fun v8 m9 =>
  lt1 v8 fun x2_10 =>
  (rR sh 9 x0 1).bind fun a11 =>
  (rR sh 9 x0 2).bind fun a12 =>
  (isO sh 5 a11).bind fun _ =>
  bd2 (fX5_partBy sh a11 a12 x1_5 x2_10 m9) fun v13 m14 =>
  if v13 = 0 then ((rR sh 9 x0 1).bind fun a16 =>
  (rR sh 9 x0 2).bind fun a17 =>
  (isO sh 5 a16).bind fun _ =>
  bd2 (fX5_joinBy sh a16 a17 x1_5 x2_10 m14) fun v18 m19 =>
  fX9_passThroughGlass_j54 sh m19)
  else (fX9_passThroughGlass_j54 sh m14)
def fX9_loseByChance_j44 (sh : Shp) (mm : Mem) : Option (Mem) :=
  some mm
def fX9_loseByChance (sh : Shp) (x0 : Nat) (x1 : Int32) (mm : Mem) : Option (Mem) :=
  (isO sh 9 x0).bind fun _ =>
  bd2 (fX9_draw sh x0 16 mm) fun v1 m2 =>
  if x1 ≤ v1 then (fX9_loseByChance_j44 sh m2)
  else ((rR sh 9 x0 0).bind fun a4 =>
  (rI sh m2 1 a4 3).bind fun v5 =>
  (isO sh 9 x0).bind fun _ =>
  bd2 (fX9_draw sh x0 v5 m2) fun v6 m7 =>
  lt1 v6 fun x2_8 =>
  (isO sh 9 x0).bind fun _ =>
  bd2 (fX9_draw sh x0 7 m7) fun v9 m10 =>
  lt1 v9 fun x3_11 =>
  (rR sh 9 x0 2).bind fun a12 =>
  (isO sh 2 a12).bind fun _ =>
  bd2 (fX2_takeOut sh a12 ((x2_8 * 7) + x3_11) 1 m10) fun v13 m14 =>
  fX9_loseByChance_j44 sh m14)
def fX9_run_j65 (sh : Shp) (mm : Mem) : Option (Mem) :=
  some mm
def fX9_run_j52 (sh : Shp) (x0 : Nat) (x3 : Int32) (x4 : Int32) (x5 : Int32) (mm : Mem) : Option ((Int32 × Mem) ⊕ ((Mem))) :=
  (rR sh 9 x0 2).bind fun a5 =>
  (isO sh 2 a5).bind fun _ =>
  (fX2_passDay sh a5 mm).bind fun m6 =>
  lt1 (x5 + 1) fun x5_7 =>
  some (.inl (x5_7, m6))
def fX9_run_b16 (sh : Shp) (x0 : Nat) (x3 : Int32) (x4 : Int32) (x5 : Int32) (mm : Mem) : Option ((Int32 × Mem) ⊕ ((Mem))) :=
  if x4 ≤ x5 then (some (.inr mm))
  else ((rR sh 9 x0 0).bind fun a9 =>
  (rI sh mm 1 a9 3).bind fun v10 =>
  if v10 ≤ 0 then (fX9_run_j52 sh x0 x3 x4 x5 mm)
  else ((rR sh 9 x0 0).bind fun a12 =>
  (rI sh mm 1 a12 4).bind fun v13 =>
  if v13 ≤ 0 then (fX9_run_j52 sh x0 x3 x4 x5 mm)
  else ((isO sh 9 x0).bind fun _ =>
  (fX9_passThroughGlass sh x0 mm).bind fun m15 =>
  (isO sh 9 x0).bind fun _ =>
  (fX9_loseByChance sh x0 x3 m15).bind fun m16 =>
  fX9_run_j52 sh x0 x3 x4 x5 m16)))
def fX9_run (sh : Shp) (x0 : Nat) (x1 : Nat) (x2 : Int32) (x3 : Int32) (x4 : Int32) (mm : Mem) : Option (Mem) :=
  (rR sh 9 x0 2).bind fun a1 =>
  (isO sh 2 a1).bind fun _ =>
  (fX2_copyFrom sh a1 x1 mm).bind fun m2 =>
  (wI sh m2 9 x0 3 x2).bind fun m3 =>
  lt1 0 fun x5_4 =>
  (loopN (fun st : Int32 × Mem => fX9_run_b16 sh x0 x3 x4 st.1 st.2) FU (x5_4, m3)).bind (fun t => fX9_run_j65 sh t)
def fX10_readNumbers_j32 (sh : Shp) (x0 : Nat) (x1 : Int32) (mm : Mem) : Option (Mem) :=
  (rR sh 10 x0 5).bind fun a1 =>
  (rR sh 10 x0 0).bind fun a2 =>
  (rR sh 10 x0 1).bind fun a3 =>
  (rI sh mm 1 a3 4).bind fun v4 =>
  (isO sh 8 a2).bind fun _ =>
  bd2 (fX8_number sh a2 0 (v4 - 1) mm) fun v5 m6 =>
  (aS sh m6 a1 x1 v5).bind fun m7 =>
  some m7
def fX10_readNumbers (sh : Shp) (x0 : Nat) (x1 : Int32) (x2 : Int32) (mm : Mem) : Option (Mem) :=
  (rR sh 10 x0 4).bind fun a8 =>
  (rR sh 10 x0 0).bind fun a9 =>
  (rR sh 10 x0 1).bind fun a10 =>
  (rI sh mm 1 a10 3).bind fun v11 =>
  (isO sh 8 a9).bind fun _ =>
  bd2 (fX8_number sh a9 0 (v11 - 1) mm) fun v12 m13 =>
  (aS sh m13 a8 x1 v12).bind fun m14 =>
  if x2 = 0 then (fX10_readNumbers_j32 sh x0 x1 m14)
  else (if x2 = 1 then (fX10_readNumbers_j32 sh x0 x1 m14)
  else (if x2 = 4 then ((rR sh 10 x0 5).bind fun a28 =>
  (rR sh 10 x0 0).bind fun a29 =>
  (rR sh 10 x0 1).bind fun a30 =>
  (rI sh m14 1 a30 3).bind fun v31 =>
  (isO sh 8 a29).bind fun _ =>
  bd2 (fX8_number sh a29 0 (v31 - 1) m14) fun v32 m33 =>
  (aS sh m33 a28 x1 v32).bind fun m34 =>
  (rR sh 10 x0 6).bind fun a35 =>
  (rR sh 10 x0 0).bind fun a36 =>
  (isO sh 8 a36).bind fun _ =>
  bd2 (fX8_number sh a36 0 6 m34) fun v37 m38 =>
  (aS sh m38 a35 x1 v37).bind fun m39 =>
  some m39)
  else ((rR sh 10 x0 5).bind fun a18 =>
  (rR sh 10 x0 0).bind fun a19 =>
  (isO sh 8 a19).bind fun _ =>
  bd2 (fX8_number sh a19 0 6 m14) fun v20 m21 =>
  (aS sh m21 a18 x1 v20).bind fun m22 =>
  (rR sh 10 x0 6).bind fun a23 =>
  (rR sh 10 x0 0).bind fun a24 =>
  (isO sh 8 a24).bind fun _ =>
  bd2 (fX8_number sh a24 1 40 m22) fun v25 m26 =>
  (aS sh m26 a23 x1 v25).bind fun m27 =>
  some m27)))
def fX10_readStep_j49 (sh : Shp) (S : Nat → Int32 → Mem → Option (Int32 × Mem)) (x0 : Nat) (x2 : Int32) (mm : Mem) : Option (Int32 × Mem) :=
  (rR sh 10 x0 0).bind fun a1 =>
  (isO sh 8 a1).bind fun _ =>
  bd2 (fX8_fail sh a1 3 x2 mm) fun v2 m3 =>
  (ckZ v2).bind fun v4 => some (v4, m3)
def fX10_readStep_j183 (sh : Shp) (S : Nat → Int32 → Mem → Option (Int32 × Mem)) (x0 : Nat) (mm : Mem) : Option (Int32 × Mem) :=
  (rR sh 10 x0 0).bind fun a5 =>
  (isO sh 8 a5).bind fun _ =>
  (fX8_isWhole sh a5 mm).bind fun v6 =>
  (ckZ v6).bind fun v7 => some (v7, mm)
def fX10_readStep_j155 (sh : Shp) (S : Nat → Int32 → Mem → Option (Int32 × Mem)) (x0 : Nat) (x4 : Int32) (s0 : Int32) (mm : Mem) : Option (Int32 × Mem) :=
  lt1 s0 fun x5_8 =>
  (rR sh 10 x0 7).bind fun a9 =>
  (rI sh mm 10 x0 8).bind fun v10 =>
  (aS sh mm a9 x4 v10).bind fun m11 =>
  (ckZ x5_8).bind fun v12 => some (v12, m11)
def fX10_readStep_j154 (sh : Shp) (S : Nat → Int32 → Mem → Option (Int32 × Mem)) (x0 : Nat) (x4 : Int32) (mm : Mem) : Option (Int32 × Mem) :=
  fX10_readStep_j155 sh S x0 x4 0 mm
def fX10_readStep_j59 (sh : Shp) (S : Nat → Int32 → Mem → Option (Int32 × Mem)) (x0 : Nat) (x1 : Int32) (x3 : Int32) (mm : Mem) : Option (Int32 × Mem) :=
  (rI sh mm 10 x0 8).bind fun v13 =>
  lt1 v13 fun x4_14 =>
  (rI sh mm 10 x0 8).bind fun v15 =>
  (wI sh mm 10 x0 8 (v15 + 1)).bind fun m16 =>
  (rR sh 10 x0 3).bind fun a17 =>
  (aS sh m16 a17 x4_14 x3).bind fun m18 =>
  if x3 = 6 then ((rR sh 10 x0 4).bind fun a22 =>
  (rR sh 10 x0 0).bind fun a23 =>
  (isO sh 8 a23).bind fun _ =>
  bd2 (fX8_number sh a23 0 40 m18) fun v24 m25 =>
  (aS sh m25 a22 x4_14 v24).bind fun m26 =>
  (rR sh 10 x0 0).bind fun a27 =>
  (isO sh 8 a27).bind fun _ =>
  (fX8_isWhole sh a27 m26).bind fun v28 =>
  if v28 = 0 then (fX10_readStep_j154 sh S x0 x4_14 m26)
  else ((rR sh 10 x0 0).bind fun a30 =>
  (isO sh 8 a30).bind fun _ =>
  bd2 (fX8_wants sh a30 91 m26) fun v31 m32 =>
  if v31 = 0 then (fX10_readStep_j154 sh S x0 x4_14 m32)
  else ((isO sh 10 x0).bind fun _ =>
  bd2 (S x0 (x1 + 1) m32) fun v34 m35 =>
  if v34 = 0 then (fX10_readStep_j154 sh S x0 x4_14 m35)
  else ((rR sh 10 x0 0).bind fun a37 =>
  (isO sh 8 a37).bind fun _ =>
  bd2 (fX8_wants sh a37 93 m35) fun v38 m39 =>
  if v38 = 0 then (fX10_readStep_j154 sh S x0 x4_14 m39)
  else (fX10_readStep_j155 sh S x0 x4_14 1 m39)))))
  else (if x3 = 5 then (fX10_readStep_j183 sh S x0 m18)
  else ((isO sh 10 x0).bind fun _ =>
  (fX10_readNumbers sh x0 x4_14 x3 m18).bind fun m21 =>
  fX10_readStep_j183 sh S x0 m21))
def fX10_readStep_o (sh : Shp) (S : Nat → Int32 → Mem → Option (Int32 × Mem)) (x0 : Nat) (x1 : Int32) (mm : Mem) : Option (Int32 × Mem) :=
  (rR sh 10 x0 0).bind fun a41 =>
  (isO sh 8 a41).bind fun _ =>
  bd2 (fX8_next sh a41 mm) fun v42 m43 =>
  lt1 v42 fun x2_44 =>
  (rR sh 10 x0 0).bind fun a45 =>
  (isO sh 8 a45).bind fun _ =>
  bd2 (fX8_word sh a45 3 m43) fun v46 m47 =>
  lt1 v46 fun x3_48 =>
  if x3_48 = (-1) then (some (0, m47))
  else ((rI sh m47 10 x0 8).bind fun v50 =>
  (rR sh 10 x0 3).bind fun a51 =>
  (aN sh a51).bind fun v52 =>
  if v52 ≤ v50 then (fX10_readStep_j49 sh S x0 x2_44 m47)
  else (if x3_48 = 6 then (if x1 < 6 then (fX10_readStep_j59 sh S x0 x1 x3_48 m47)
  else (fX10_readStep_j49 sh S x0 x2_44 m47))
  else (fX10_readStep_j59 sh S x0 x1 x3_48 m47)))
def fX10_readSteps_j68 (sh : Shp) (S : Nat → Int32 → Mem → Option (Int32 × Mem)) (mm : Mem) : Option (Int32 × Mem) :=
  some (0, mm)
def fX10_readSteps_j38 (sh : Shp) (S : Nat → Int32 → Mem → Option (Int32 × Mem)) (mm : Mem) : Option (Int32 × Mem) :=
  some (1, mm)
def fX10_readSteps_j23 (sh : Shp) (S : Nat → Int32 → Mem → Option (Int32 × Mem)) (mm : Mem) : Option (Int32 × Mem) :=
  fX10_readSteps_j38 sh S mm
def fX10_readSteps_j60 (sh : Shp) (S : Nat → Int32 → Mem → Option (Int32 × Mem)) (mm : Mem) : Option (Int32 × Mem) :=
  some (0, mm)
def fX10_readSteps_j40 (sh : Shp) (S : Nat → Int32 → Mem → Option (Int32 × Mem)) (x0 : Nat) (x1 : Int32) (x2 : Int32) (mm : Mem) : Option ((Int32 × Mem) ⊕ ((Mem) ⊕ (Mem) ⊕ (Mem) ⊕ (Mem))) :=
  (isO sh 10 x0).bind fun _ =>
  bd2 (fX10_readStep_o sh S x0 x1 mm) fun v2 m3 =>
  if v2 = 0 then (some (.inr (Sum.inr (Sum.inr (Sum.inl m3)))))
  else ((rR sh 10 x0 0).bind fun a5 =>
  (isO sh 8 a5).bind fun _ =>
  bd2 (fX8_wants sh a5 59 m3) fun v6 m7 =>
  if v6 = 0 then (some (.inr (Sum.inr (Sum.inr (Sum.inl m7)))))
  else (lt1 (x2 + 1) fun x2_9 =>
  some (.inl (x2_9, m7))))
def fX10_readSteps_b2 (sh : Shp) (S : Nat → Int32 → Mem → Option (Int32 × Mem)) (x0 : Nat) (x1 : Int32) (x2 : Int32) (mm : Mem) : Option ((Int32 × Mem) ⊕ ((Mem) ⊕ (Mem) ⊕ (Mem) ⊕ (Mem))) :=
  if 150 ≤ x2 then (some (.inr (Sum.inr (Sum.inr (Sum.inr (mm))))))
  else (if x1 = 0 then ((rR sh 10 x0 0).bind fun a16 =>
  (isO sh 8 a16).bind fun _ =>
  bd2 (fX8_ended sh a16 mm) fun v17 m18 =>
  if v17 = 0 then (fX10_readSteps_j40 sh S x0 x1 x2 m18)
  else (some (.inr (Sum.inl m18))))
  else ((rR sh 10 x0 0).bind fun a12 =>
  (isO sh 8 a12).bind fun _ =>
  bd2 (fX8_sees sh a12 93 mm) fun v13 m14 =>
  if v13 = 0 then (fX10_readSteps_j40 sh S x0 x1 x2 m14)
  else (some (.inr (Sum.inr (Sum.inl m14))))))
def fX10_readSteps_o (sh : Shp) (S : Nat → Int32 → Mem → Option (Int32 × Mem)) (x0 : Nat) (x1 : Int32) (mm : Mem) : Option (Int32 × Mem) :=
  lt1 0 fun x2_1 =>
  (loopN (fun st : Int32 × Mem => fX10_readSteps_b2 sh S x0 x1 st.1 st.2) FU (x2_1, mm)).bind (Sum.elim (fun t => fX10_readSteps_j23 sh S t) (Sum.elim (fun t => fX10_readSteps_j38 sh S t) (Sum.elim (fun t => fX10_readSteps_j60 sh S t) (fun t => fX10_readSteps_j68 sh S t))))
def fX10_readSteps (sh : Shp) : Nat → Nat → Int32 → Mem → Option (Int32 × Mem)
  | 0 => fun _ _ _ => none
  | d + 1 => fun x0 x1 mm => fX10_readSteps_o sh (fX10_readSteps sh d) x0 x1 mm
def fX10_read (sh : Shp) (x0 : Nat) (mm : Mem) : Option (Int32 × Mem) :=
  (wI sh mm 10 x0 8 0).bind fun m1 =>
  (wI sh m1 10 x0 9 0).bind fun m2 =>
  (wI sh m2 10 x0 10 0).bind fun m3 =>
  (wI sh m3 10 x0 11 0).bind fun m4 =>
  (isO sh 10 x0).bind fun _ =>
  bd2 (fX10_readSteps sh DP x0 0 m4) fun v5 m6 =>
  (ckZ v5).bind fun v7 => some (v7, m6)
def fX10_isDone (sh : Shp) (x0 : Nat) (x1 : Nat) (x2 : Int32) (mm : Mem) : Option (Int32 × Mem) :=
  (rR sh 10 x0 4).bind fun a1 =>
  (aL sh mm a1 x2).bind fun v2 =>
  lt1 v2 fun x3_3 =>
  (rR sh 10 x0 5).bind fun a4 =>
  (aL sh mm a4 x2).bind fun v5 =>
  lt1 v5 fun x4_6 =>
  (rR sh 10 x0 6).bind fun a7 =>
  (aL sh mm a7 x2).bind fun v8 =>
  lt1 v8 fun x5_9 =>
  (rR sh 10 x0 3).bind fun a10 =>
  (aL sh mm a10 x2).bind fun v11 =>
  if v11 = 0 then ((rR sh 10 x0 2).bind fun a12 =>
  (isO sh 5 a12).bind fun _ =>
  bd2 (fX5_partBy sh a12 x1 x3_3 x4_6 mm) fun v13 m14 =>
  (ckZ v13).bind fun v15 => some (v15, m14))
  else if v11 = 1 then ((rR sh 10 x0 2).bind fun a17 =>
  (isO sh 5 a17).bind fun _ =>
  bd2 (fX5_joinBy sh a17 x1 x3_3 x4_6 mm) fun v18 m19 =>
  (ckZ v18).bind fun v20 => some (v20, m19))
  else if v11 = 2 then ((isO sh 2 x1).bind fun _ =>
  bd2 (fX2_takeOut sh x1 ((x3_3 * 7) + x4_6) x5_9 mm) fun v22 m23 =>
  (ckZ v22).bind fun v24 => some (v24, m23))
  else if v11 = 3 then ((isO sh 2 x1).bind fun _ =>
  bd2 (fX2_giveBack sh x1 ((x3_3 * 7) + x4_6) x5_9 mm) fun v26 m27 =>
  (ckZ v26).bind fun v28 => some (v28, m27))
  else if v11 = 4 then ((isO sh 2 x1).bind fun _ =>
  bd2 (fX2_change sh x1 ((x3_3 * 7) + x5_9) ((x4_6 * 7) + x5_9) mm) fun v30 m31 =>
  (ckZ v30).bind fun v32 => some (v32, m31))
  else ((rI sh mm 2 x1 5).bind fun v34 =>
  if v34 < 400 then ((isO sh 2 x1).bind fun _ =>
  (fX2_passDay sh x1 mm).bind fun m36 =>
  some (1, m36))
  else (some (0, mm)))
def fX10_perform_j157 (sh : Shp) (S : Nat → Nat → Int32 → Int32 → Int32 → Mem → Option (Mem)) (mm : Mem) : Option (Mem) :=
  some mm
def fX10_perform_j151 (sh : Shp) (S : Nat → Nat → Int32 → Int32 → Int32 → Mem → Option (Mem)) (x0 : Nat) (x1 : Nat) (x3 : Int32) (x4 : Int32) (x5 : Int32) (mm : Mem) : Option ((Int32 × Mem) ⊕ ((Mem))) :=
  lt1 (x5 + 1) fun x5_3 =>
  some (.inl (x5_3, mm))
def fX10_perform_j104 (sh : Shp) (S : Nat → Nat → Int32 → Int32 → Int32 → Mem → Option (Mem)) (x0 : Nat) (x1 : Nat) (x3 : Int32) (x4 : Int32) (x5 : Int32) (x6 : Int32) (mm : Mem) : Option ((Int32 × Mem) ⊕ ((Mem))) :=
  lt1 (mxI x5 (x6 - 1)) fun x5_4 =>
  fX10_perform_j151 sh S x0 x1 x3 x4 x5_4 mm
def fX10_perform_b61 (sh : Shp) (S : Nat → Nat → Int32 → Int32 → Int32 → Mem → Option (Mem)) (x0 : Nat) (x1 : Nat) (x3 : Int32) (x4 : Int32) (x5 : Int32) (x6 : Int32) (x7 : Int32) (mm : Mem) : Option ((Int32 × Mem) ⊕ ((Mem))) :=
  (rR sh 10 x0 4).bind fun a24 =>
  (aL sh mm a24 x5).bind fun v25 =>
  if v25 ≤ x7 then (some (.inr mm))
  else ((rI sh mm 10 x0 9).bind fun v27 =>
  if 200 ≤ v27 then (some (.inr mm))
  else ((isO sh 10 x0).bind fun _ =>
  (S x0 x1 (x5 + 1) x6 (x4 + 1) mm).bind fun m29 =>
  lt1 (x7 + 1) fun x7_30 =>
  some (.inl (x7_30, m29))))
def fX10_perform_b11 (sh : Shp) (S : Nat → Nat → Int32 → Int32 → Int32 → Mem → Option (Mem)) (x0 : Nat) (x1 : Nat) (x3 : Int32) (x4 : Int32) (x5 : Int32) (mm : Mem) : Option ((Int32 × Mem) ⊕ ((Mem))) :=
  if x3 ≤ x5 then (some (.inr mm))
  else ((rI sh mm 10 x0 9).bind fun v6 =>
  if 200 ≤ v6 then (some (.inr mm))
  else ((rI sh mm 10 x0 9).bind fun v8 =>
  (wI sh mm 10 x0 9 (v8 + 1)).bind fun m9 =>
  (rR sh 10 x0 3).bind fun a10 =>
  (aL sh m9 a10 x5).bind fun v11 =>
  if v11 = 6 then ((rR sh 10 x0 7).bind fun a20 =>
  (aL sh m9 a20 x5).bind fun v21 =>
  lt1 v21 fun x6_22 =>
  lt1 0 fun x7_23 =>
  (loopN (fun st : Int32 × Mem => fX10_perform_b61 sh S x0 x1 x3 x4 x5 x6_22 st.1 st.2) FU (x7_23, m9)).bind (fun t => fX10_perform_j104 sh S x0 x1 x3 x4 x5 x6_22 t))
  else ((isO sh 10 x0).bind fun _ =>
  bd2 (fX10_isDone sh x0 x1 x5 m9) fun v13 m14 =>
  if v13 = 0 then ((rI sh m14 10 x0 11).bind fun v16 =>
  (wI sh m14 10 x0 11 (v16 + 1)).bind fun m17 =>
  fX10_perform_j151 sh S x0 x1 x3 x4 x5 m17)
  else ((rI sh m14 10 x0 10).bind fun v18 =>
  (wI sh m14 10 x0 10 (v18 + 1)).bind fun m19 =>
  fX10_perform_j151 sh S x0 x1 x3 x4 x5 m19))))
def fX10_perform_o (sh : Shp) (S : Nat → Nat → Int32 → Int32 → Int32 → Mem → Option (Mem)) (x0 : Nat) (x1 : Nat) (x2 : Int32) (x3 : Int32) (x4 : Int32) (mm : Mem) : Option (Mem) :=
  if x4 ≤ 6 then (lt1 x2 fun x5_2 =>
  (loopN (fun st : Int32 × Mem => fX10_perform_b11 sh S x0 x1 x3 x4 st.1 st.2) FU (x5_2, mm)).bind (fun t => fX10_perform_j157 sh S t))
  else (some mm)
def fX10_perform (sh : Shp) : Nat → Nat → Nat → Int32 → Int32 → Int32 → Mem → Option (Mem)
  | 0 => fun _ _ _ _ _ _ => none
  | d + 1 => fun x0 x1 x2 x3 x4 mm => fX10_perform_o sh (fX10_perform sh d) x0 x1 x2 x3 x4 mm
set_option maxHeartbeats 4000000 in
set_option maxRecDepth 100000 in
theorem wX5_bounded {p : Program} {l : Launch} {e : Env} {R : Room} {s : State} {m : MethodId} {args : Array Value} {below : List Frame} {meth : Method} {c : Code} {Q : State → Prop} {E : Ev} (X : Cx p s m args c cX5_bounded RX5 E) (hml : c.maxLocals = 2) (hR : 0 ≤ R.frames ∧ 0 ≤ R.locals) {x0 : Nat} {x1 : Int32} {mm : Mem} {r : Int32} (hf : fX5_bounded (eS E) x0 x1 mm = some r) (hret : ∀ (pc : Nat) (H : Heap) (locs : List Loc) (ls : Array Slot), narrow .int (.int r) = .int r → decode cX5_bounded pc = .ok (.ireturn, 1) → wS E s mm H locs → W p l e R s m args below meth c H locs 0 0 Q (F0 m pc ls [.int r])) : ∀ (H : Heap) (locs : List Loc) (ls : Array Slot), wS E s mm H locs → lv_has ls 2 [(0, .ref x0), (1, .int x1)] → W p l e R s m args below meth c H locs 0 0 Q (F0 m 0 ls []) := by
  have hx := X.1
  have hb := X.2.1
  have hR1 := hR.1
  have hR2 := hR.2
  have hRa : 0 ≤ R.frames := by omega
  have hRb : 0 ≤ R.locals := by omega
  unfold fX5_bounded at hf
  have hj32 : ∀ (s0 : Int32) (H : Heap) (locs : List Loc) (ls : Array Slot), fX5_bounded_j32 (eS E) s0 mm = some r → wS E s mm H locs → lv_has ls 2 [] → W p l e R s m args below meth c H locs 0 0 Q (F0 m 32 ls [.int s0]) := by
    intro s0 H locs ls hf hS hl
    unfold fX5_bounded_j32 at hf
    cases hf
    exact hret _ _ _ _ rfl dX5_bounded_32 hS
  intro H locs ls hS hl
  refine lv_iload_n hx hb dX5_bounded_0 rfl (lv_at hl 1 rfl) ?_
  refine lv_if_ge (tgt := 8) hx hb dX5_bounded_1 (by decide) (fun q1 => ?_) (fun q1 => ?_)
  · have hf := ifp hf q1
    refine lv_iload_n hx hb dX5_bounded_8 rfl (lv_at hl 1 rfl) ?_
    refine lv_aload_n hx hb dX5_bounded_9 rfl (lv_at hl 0 rfl) ?_
    obtain ⟨a2, h1, hf⟩ := bs hf
    refine am_gr X hS fl_X5_9 rfl h1 dX5_bounded_10 ?_
    obtain ⟨v3, h1, hf⟩ := bs hf
    refine am_gi X hS fl_X5_59 rfl h1 dX5_bounded_13 ?_
    refine lv_icmp_ge (tgt := 23) hx hb dX5_bounded_16 (by decide) (fun q4 => ?_) (fun q4 => ?_)
    · have hf := ifp hf q4
      refine lv_aload_n hx hb dX5_bounded_23 rfl (lv_at hl 0 rfl) ?_
      obtain ⟨a5, h1, hf⟩ := bs hf
      refine am_gr X hS fl_X5_9 rfl h1 dX5_bounded_24 ?_
      obtain ⟨v6, h1, hf⟩ := bs hf
      refine am_gi X hS fl_X5_59 rfl h1 dX5_bounded_27 ?_
      refine lv_iconst (v := 1) hx hb dX5_bounded_30 (by decide) ?_
      refine lv_isub hx hb dX5_bounded_31 ?_
      exact hj32 (v6 - 1) H locs ls hf hS (lv_sub hl [] rfl)
    · have hf := ifn hf q4
      refine lv_iload_n hx hb dX5_bounded_19 rfl (lv_at hl 1 rfl) ?_
      refine lv_goto (tgt := 32) hx hb dX5_bounded_20 (by decide) ?_
      exact hj32 x1 H locs ls hf hS (lv_sub hl [] rfl)
  · have hf := ifn hf q1
    refine lv_iconst (v := 0) hx hb dX5_bounded_4 (by decide) ?_
    refine lv_goto (tgt := 32) hx hb dX5_bounded_5 (by decide) ?_
    exact hj32 0 H locs ls hf hS (lv_sub hl [] rfl)
set_option maxRecDepth 100000 in
theorem cX5_bounded_ok {l : Launch} {E : Ev} {x0 : Nat} {x1 : Int32} {mm : Mem} {r : Int32} (hf : fX5_bounded (eS E) x0 x1 mm = some r) : CtI l yX5_bounded cX5_bounded 2 (some .int) (0) (0) E [.ref x0, .int x1] mm r mm := by
  refine Met.ofW (cc := cX5_bounded) (maxL := 2) (ret := (some .int)) (by decide) rfl ?_
  intro p e s m args below meth c s₁ B hml hv
  obtain ⟨rfl, X, hS, hr, hlocks⟩ := am_in B hv
  refine am_entry (Nat.le_of_ble_eq_true rfl) (fun ls hl => ?_)
  exact wX5_bounded X hml ⟨Nat.le_refl _, Nat.le_refl _⟩ hf (fun pc H locs ls hn hd hS => am_ri X hS hr hn hd hlocks) _ _ ls hS hl
set_option maxHeartbeats 4000000 in
set_option maxRecDepth 100000 in
theorem wX5_turnOf {p : Program} {l : Launch} {e : Env} {R : Room} {s : State} {m : MethodId} {args : Array Value} {below : List Frame} {meth : Method} {c : Code} {Q : State → Prop} {E : Ev} (X : Cx p s m args c cX5_turnOf RX5 E) (hml : c.maxLocals = 6) (hR : 2 ≤ R.frames ∧ 46 ≤ R.locals) {x0 : Nat} {x1 : Nat} {x2 : Int32} {x3 : Int32} {x4 : Int32} {x5 : Int32} {mm : Mem} {r : Int32} {mm1 : Mem} (hf : fX5_turnOf (eS E) x0 x1 x2 x3 x4 x5 mm = some (r, mm1)) (hret : ∀ (pc : Nat) (H : Heap) (locs : List Loc) (ls : Array Slot), narrow .int (.int r) = .int r → decode cX5_turnOf pc = .ok (.ireturn, 1) → wS E s mm1 H locs → W p l e R s m args below meth c H locs 0 0 Q (F0 m pc ls [.int r])) : ∀ (H : Heap) (locs : List Loc) (ls : Array Slot), wS E s mm H locs → lv_has ls 6 [(0, .ref x0), (1, .ref x1), (2, .int x2), (3, .int x3), (4, .int x4), (5, .int x5)] → W p l e R s m args below meth c H locs 0 0 Q (F0 m 0 ls []) := by
  have hx := X.1
  have hb := X.2.1
  have hR1 := hR.1
  have hR2 := hR.2
  have hRa : 2 ≤ R.frames := by omega
  have hRb : 46 ≤ R.locals := by omega
  unfold fX5_turnOf at hf
  intro H locs ls hS hl
  refine lv_aload_n hx hb dX5_turnOf_0 rfl (lv_at hl 0 rfl) ?_
  obtain ⟨a1, h1, hf⟩ := bs hf
  refine am_gr X hS fl_X5_21 rfl h1 dX5_turnOf_1 ?_
  refine lv_iconst (v := 0) hx hb dX5_turnOf_4 (by decide) ?_
  refine lv_iload_n hx hb dX5_turnOf_5 rfl (lv_at hl 3 rfl) ?_
  obtain ⟨m2, h1, hf⟩ := bs hf
  refine am_ast X hS h1 dX5_turnOf_6 (fun H locs hS => ?_)
  refine lv_aload_n hx hb dX5_turnOf_7 rfl (lv_at hl 0 rfl) ?_
  obtain ⟨a3, h1, hf⟩ := bs hf
  refine am_gr X hS fl_X5_21 rfl h1 dX5_turnOf_8 ?_
  refine lv_iconst (v := 1) hx hb dX5_turnOf_11 (by decide) ?_
  refine lv_iload hx hb dX5_turnOf_12 (lv_at hl 5 rfl) ?_
  obtain ⟨m4, h1, hf⟩ := bs hf
  refine am_ast X hS h1 dX5_turnOf_14 (fun H locs hS => ?_)
  refine lv_aload_n hx hb dX5_turnOf_15 rfl (lv_at hl 0 rfl) ?_
  obtain ⟨a5, h1, hf⟩ := bs hf
  refine am_gr X hS fl_X5_21 rfl h1 dX5_turnOf_16 ?_
  refine lv_iconst (v := 2) hx hb dX5_turnOf_19 (by decide) ?_
  refine lv_aload_n hx hb dX5_turnOf_20 rfl (lv_at hl 0 rfl) ?_
  obtain ⟨a6, h1, hf⟩ := bs hf
  refine am_gr X hS fl_X5_9 rfl h1 dX5_turnOf_21 ?_
  obtain ⟨a7, h1, hf⟩ := bs hf
  refine am_gr X hS fl_X5_31 rfl h1 dX5_turnOf_24 ?_
  refine lv_iload hx hb dX5_turnOf_27 (lv_at hl 4 rfl) ?_
  obtain ⟨v8, h1, hf⟩ := bs hf
  refine am_ald X hS h1 dX5_turnOf_29 ?_
  obtain ⟨m9, h1, hf⟩ := bs hf
  refine am_ast X hS h1 dX5_turnOf_30 (fun H locs hS => ?_)
  refine lv_aload_n hx hb dX5_turnOf_31 rfl (lv_at hl 0 rfl) ?_
  obtain ⟨a10, h1, hf⟩ := bs hf
  refine am_gr X hS fl_X5_21 rfl h1 dX5_turnOf_32 ?_
  refine lv_iconst (v := 3) hx hb dX5_turnOf_35 (by decide) ?_
  refine lv_aload_n hx hb dX5_turnOf_36 rfl (lv_at hl 1 rfl) ?_
  refine lv_iload_n hx hb dX5_turnOf_37 rfl (lv_at hl 2 rfl) ?_
  obtain ⟨u0, h0, hf⟩ := bs hf
  obtain ⟨_, hrc⟩ := isO_n h0
  obtain ⟨v11, h1, hf⟩ := bs hf
  refine am_endi hS (am_runV (As := [.int x2]) X (hml.trans hl.1.symm) hS (cX2_allWithin_ok (l := l) (E := E) h1) mv_X5_36 hrc rfl ⟨Nat.le_trans (by decide) hRa, Nat.le_trans (by decide) hRb⟩ ⟨Nat.zero_le _, Nat.zero_le _⟩ rfl rfl (Nat.le_of_ble_eq_true rfl) dX5_turnOf_38) (fun H locs hS => ?_)
  obtain ⟨m12, h1, hf⟩ := bs hf
  refine am_ast X hS h1 dX5_turnOf_41 (fun H locs hS => ?_)
  refine lv_aload_n hx hb dX5_turnOf_42 rfl (lv_at hl 0 rfl) ?_
  obtain ⟨a13, h1, hf⟩ := bs hf
  refine am_gr X hS fl_X5_21 rfl h1 dX5_turnOf_43 ?_
  refine lv_iconst (v := 4) hx hb dX5_turnOf_46 (by decide) ?_
  refine lv_aload_n hx hb dX5_turnOf_47 rfl (lv_at hl 1 rfl) ?_
  obtain ⟨a14, h1, hf⟩ := bs hf
  refine am_gr X hS fl_X5_42 rfl h1 dX5_turnOf_48 ?_
  refine lv_iload_n hx hb dX5_turnOf_51 rfl (lv_at hl 2 rfl) ?_
  refine lv_bipush (v := 7) hx hb dX5_turnOf_52 (by decide) ?_
  refine lv_imul hx hb dX5_turnOf_54 ?_
  refine lv_iload_n hx hb dX5_turnOf_55 rfl (lv_at hl 3 rfl) ?_
  refine lv_iadd hx hb dX5_turnOf_56 ?_
  obtain ⟨v15, h1, hf⟩ := bs hf
  refine am_ald X hS h1 dX5_turnOf_57 ?_
  obtain ⟨m16, h1, hf⟩ := bs hf
  refine am_ast X hS h1 dX5_turnOf_58 (fun H locs hS => ?_)
  refine lv_aload_n hx hb dX5_turnOf_59 rfl (lv_at hl 0 rfl) ?_
  obtain ⟨a17, h1, hf⟩ := bs hf
  refine am_gr X hS fl_X5_21 rfl h1 dX5_turnOf_60 ?_
  refine lv_iconst (v := 5) hx hb dX5_turnOf_63 (by decide) ?_
  refine lv_aload_n hx hb dX5_turnOf_64 rfl (lv_at hl 1 rfl) ?_
  obtain ⟨a18, h1, hf⟩ := bs hf
  refine am_gr X hS fl_X5_45 rfl h1 dX5_turnOf_65 ?_
  refine lv_iload_n hx hb dX5_turnOf_68 rfl (lv_at hl 2 rfl) ?_
  obtain ⟨v19, h1, hf⟩ := bs hf
  refine am_ald X hS h1 dX5_turnOf_69 ?_
  obtain ⟨m20, h1, hf⟩ := bs hf
  refine am_ast X hS h1 dX5_turnOf_70 (fun H locs hS => ?_)
  refine lv_aload_n hx hb dX5_turnOf_71 rfl (lv_at hl 0 rfl) ?_
  obtain ⟨a21, h1, hf⟩ := bs hf
  refine am_gr X hS fl_X5_21 rfl h1 dX5_turnOf_72 ?_
  refine lv_bipush (v := 6) hx hb dX5_turnOf_75 (by decide) ?_
  refine lv_aload_n hx hb dX5_turnOf_77 rfl (lv_at hl 1 rfl) ?_
  obtain ⟨v22, h1, hf⟩ := bs hf
  refine am_gi X hS fl_X5_48 rfl h1 dX5_turnOf_78 ?_
  obtain ⟨m23, h1, hf⟩ := bs hf
  refine am_ast X hS h1 dX5_turnOf_81 (fun H locs hS => ?_)
  refine lv_aload_n hx hb dX5_turnOf_82 rfl (lv_at hl 0 rfl) ?_
  obtain ⟨a24, h1, hf⟩ := bs hf
  refine am_gr X hS fl_X5_21 rfl h1 dX5_turnOf_83 ?_
  refine lv_bipush (v := 7) hx hb dX5_turnOf_86 (by decide) ?_
  refine lv_iload_n hx hb dX5_turnOf_88 rfl (lv_at hl 2 rfl) ?_
  obtain ⟨m25, h1, hf⟩ := bs hf
  refine am_ast X hS h1 dX5_turnOf_89 (fun H locs hS => ?_)
  refine lv_aload_n hx hb dX5_turnOf_90 rfl (lv_at hl 0 rfl) ?_
  refine lv_aload_n hx hb dX5_turnOf_91 rfl (lv_at hl 0 rfl) ?_
  obtain ⟨a26, h1, hf⟩ := bs hf
  refine am_gr X hS fl_X5_15 rfl h1 dX5_turnOf_92 ?_
  refine lv_aload_n hx hb dX5_turnOf_95 rfl (lv_at hl 0 rfl) ?_
  obtain ⟨a27, h1, hf⟩ := bs hf
  refine am_gr X hS fl_X5_21 rfl h1 dX5_turnOf_96 ?_
  obtain ⟨u0, h0, hf⟩ := bs hf
  obtain ⟨_, hrc⟩ := isO_n h0
  obtain ⟨v28, m29, h1, hf⟩ := bs2 hf
  refine am_endi hS (am_runV (As := [.ref a27]) X (hml.trans hl.1.symm) hS (cX4_valueFor_ok (l := l) (E := E) h1) mv_X5_52 hrc rfl ⟨Nat.le_trans (by decide) hRa, Nat.le_trans (by decide) hRb⟩ ⟨Nat.zero_le _, Nat.zero_le _⟩ rfl rfl (Nat.le_of_ble_eq_true rfl) dX5_turnOf_99) (fun H locs hS => ?_)
  obtain ⟨u0, h0, hf⟩ := bs hf
  obtain ⟨_, hrc⟩ := isO_n h0
  obtain ⟨v30, h1, hf⟩ := bs hf
  refine am_endi hS (am_runV (As := [.int v28]) X (hml.trans hl.1.symm) hS (cX5_bounded_ok (l := l) (E := E) h1) mv_X5_56 hrc rfl ⟨Nat.le_trans (by decide) hRa, Nat.le_trans (by decide) hRb⟩ ⟨Nat.zero_le _, Nat.zero_le _⟩ rfl rfl (Nat.le_of_ble_eq_true rfl) dX5_turnOf_102) (fun H locs hS => ?_)
  cases hf
  exact hret _ _ _ _ rfl dX5_turnOf_105 hS
set_option maxRecDepth 100000 in
theorem cX5_turnOf_ok {l : Launch} {E : Ev} {x0 : Nat} {x1 : Nat} {x2 : Int32} {x3 : Int32} {x4 : Int32} {x5 : Int32} {mm : Mem} {r : Int32} {mm1 : Mem} (hf : fX5_turnOf (eS E) x0 x1 x2 x3 x4 x5 mm = some (r, mm1)) : CtI l yX5_turnOf cX5_turnOf 6 (some .int) (2) (46) E [.ref x0, .ref x1, .int x2, .int x3, .int x4, .int x5] mm r mm1 := by
  refine Met.ofW (cc := cX5_turnOf) (maxL := 6) (ret := (some .int)) (by decide) rfl ?_
  intro p e s m args below meth c s₁ B hml hv
  obtain ⟨rfl, X, hS, hr, hlocks⟩ := am_in B hv
  refine am_entry (Nat.le_of_ble_eq_true rfl) (fun ls hl => ?_)
  exact wX5_turnOf X hml ⟨Nat.le_refl _, Nat.le_refl _⟩ hf (fun pc H locs ls hn hd hS => am_ri X hS hr hn hd hlocks) _ _ ls hS hl
set_option maxHeartbeats 4000000 in
set_option maxRecDepth 100000 in
theorem wX5_partBy {p : Program} {l : Launch} {e : Env} {R : Room} {s : State} {m : MethodId} {args : Array Value} {below : List Frame} {meth : Method} {c : Code} {Q : State → Prop} {E : Ev} (X : Cx p s m args c cX5_partBy RX5 E) (hml : c.maxLocals = 7) (hR : 3 ≤ R.frames ∧ 71 ≤ R.locals) {x0 : Nat} {x1 : Nat} {x2 : Int32} {x3 : Int32} {mm : Mem} {r : Int32} {mm1 : Mem} (hf : fX5_partBy (eS E) x0 x1 x2 x3 mm = some (r, mm1)) (hret : ∀ (pc : Nat) (H : Heap) (locs : List Loc) (ls : Array Slot), narrow .boolean (.int r) = .int r → decode cX5_partBy pc = .ok (.ireturn, 1) → wS E s mm1 H locs → W p l e R s m args below meth c H locs 0 0 Q (F0 m pc ls [.int r])) : ∀ (H : Heap) (locs : List Loc) (ls : Array Slot), wS E s mm H locs → lv_has ls 7 [(0, .ref x0), (1, .ref x1), (2, .int x2), (3, .int x3)] → W p l e R s m args below meth c H locs 0 0 Q (F0 m 0 ls []) := by
  have hx := X.1
  have hb := X.2.1
  have hR1 := hR.1
  have hR2 := hR.2
  have hRa : 3 ≤ R.frames := by omega
  have hRb : 71 ≤ R.locals := by omega
  unfold fX5_partBy at hf
  have hj19 : ∀ (mm : Mem) (H : Heap) (locs : List Loc) (ls : Array Slot), fX5_partBy_j19 (eS E) mm = some (r, mm1) → wS E s mm H locs → lv_has ls 7 [] → W p l e R s m args below meth c H locs 0 0 Q (F0 m 19 ls []) := by
    intro mm H locs ls hf hS hl
    unfold fX5_partBy_j19 at hf
    refine lv_iconst (v := 0) hx hb dX5_partBy_19 (by decide) ?_
    cases hf
    exact hret _ _ _ _ rfl dX5_partBy_20 hS
  have hj141 : ∀ (x1 : Nat) (x2 : Int32) (mm : Mem) (H : Heap) (locs : List Loc) (ls : Array Slot), fX5_partBy_j141 (eS E) x1 x2 mm = some (r, mm1) → wS E s mm H locs → lv_has ls 7 [(1, .ref x1), (2, .int x2)] → W p l e R s m args below meth c H locs 0 0 Q (F0 m 141 ls []) := by
    intro x1 x2 mm H locs ls hf hS hl
    unfold fX5_partBy_j141 at hf
    refine lv_aload_n hx hb dX5_partBy_141 rfl (lv_at hl 0 rfl) ?_
    obtain ⟨a1, h1, hf⟩ := bs hf
    refine am_gr X hS fl_X5_45 rfl h1 dX5_partBy_142 ?_
    refine lv_iload_n hx hb dX5_partBy_145 rfl (lv_at hl 1 rfl) ?_
    refine lv_dup2_11 hx hb dX5_partBy_146 rfl rfl ?_
    obtain ⟨v2, h1, hf⟩ := bs hf
    refine am_ald X hS h1 dX5_partBy_147 ?_
    refine lv_iconst (v := 1) hx hb dX5_partBy_148 (by decide) ?_
    refine lv_iadd hx hb dX5_partBy_149 ?_
    obtain ⟨m3, h1, hf⟩ := bs hf
    refine am_ast X hS h1 dX5_partBy_150 (fun H locs hS => ?_)
    refine lv_iconst (v := 1) hx hb dX5_partBy_151 (by decide) ?_
    cases hf
    exact hret _ _ _ _ rfl dX5_partBy_152 hS
  have hj69 : ∀ (x0 : Nat) (x1 : Nat) (x2 : Int32) (x4 : Int32) (mm : Mem) (H : Heap) (locs : List Loc) (ls : Array Slot), fX5_partBy_j69 (eS E) x0 x1 x2 x4 mm = some (r, mm1) → wS E s mm H locs → lv_has ls 7 [(0, .ref x0), (1, .ref x1), (2, .int x2), (4, .int x4)] → W p l e R s m args below meth c H locs 0 0 Q (F0 m 69 ls []) := by
    intro x0 x1 x2 x4 mm H locs ls hf hS hl
    unfold fX5_partBy_j69 at hf
    refine lv_iconst (v := 0) hx hb dX5_partBy_69 (by decide) ?_
    refine lv_topi (fun x5_4 e1 => ?_)
    have hf := lt1_n e1 hf
    refine lv_istore (lv' := [(5, .int x5_4), (0, .ref x0), (1, .ref x1), (2, .int x2), (4, .int x4)]) hx hb dX5_partBy_70 hl (by decide) rfl (fun ls hl => ?_)
    obtain ⟨ex72, hl72, hk72⟩ := bs hf
    refine loop_W (P := fun st => ∀ (H : Heap) (locs : List Loc) (ls : Array Slot), wS E s st.2 H locs → lv_has ls 7 [(0, .ref x0), (1, .ref x1), (2, .int x2), (4, .int x4), (5, .int st.1)] → W p l e R s m args below meth c H locs 0 0 Q (F0 m 72 ls [])) (ex := ex72) ?_ FU _ hl72 H locs ls hS (lv_sub hl [1, 2, 3, 4, 0] rfl)
    intro st y72 hf hyL72 hyR72 H locs ls hS hl
    obtain ⟨x5, mm⟩ := st
    have hf : fX5_partBy_b72 (eS E) x0 x1 x2 x4 x5 mm = some y72 := hf
    have hS : wS E s mm H locs := hS
    have hl : lv_has ls 7 [(0, .ref x0), (1, .ref x1), (2, .int x2), (4, .int x4), (5, .int x5)] := hl
    unfold fX5_partBy_b72 at hf
    have hj135 : ∀ (x5 : Int32) (mm : Mem) (H : Heap) (locs : List Loc) (ls : Array Slot), fX5_partBy_j135 (eS E) x0 x1 x2 x4 x5 mm = some y72 → wS E s mm H locs → lv_has ls 7 [(0, .ref x0), (1, .ref x1), (2, .int x2), (4, .int x4), (5, .int x5)] → W p l e R s m args below meth c H locs 0 0 Q (F0 m 135 ls []) := by
      intro x5 mm H locs ls hf hS hl
      unfold fX5_partBy_j135 at hf
      obtain ⟨x5_5, e1⟩ : ∃ z : Int32, z = x5 + 1 := ⟨_, rfl⟩
      have hf := lt1_n e1 hf
      refine lv_iinc (v := x5_5) (lv' := [(5, .int x5_5), (0, .ref x0), (1, .ref x1), (2, .int x2), (4, .int x4)]) hx hb dX5_partBy_135 hl (k := 4) rfl (by rw [e1]; rfl) (by decide) rfl (fun ls hl => ?_)
      refine lv_goto (tgt := 72) hx hb dX5_partBy_138 (by decide) ?_
      exact hyL72 _ (Option.some.inj hf).symm H locs ls hS (lv_sub hl [1, 2, 3, 4, 0] rfl)
    refine lv_iload hx hb dX5_partBy_72 (lv_at hl 4 rfl) ?_
    refine lv_bipush (v := 7) hx hb dX5_partBy_74 (by decide) ?_
    refine lv_icmp_ge (tgt := 141) hx hb dX5_partBy_76 (by decide) (fun q6 => ?_) (fun q6 => ?_)
    · have hf := ifp hf q6
      obtain rfl : mm = ex72 := hyR72 _ (Option.some.inj hf).symm
      exact hj141 x1 x2 mm H locs ls hk72 hS (lv_sub hl [1, 2] rfl)
    · have hf := ifn hf q6
      refine lv_iload hx hb dX5_partBy_79 (lv_at hl 3 rfl) ?_
      refine lv_iload hx hb dX5_partBy_81 (lv_at hl 4 rfl) ?_
      refine lv_iadd hx hb dX5_partBy_83 ?_
      refine lv_topi (fun x6_7 e1 => ?_)
      have hf := lt1_n e1 hf
      refine lv_istore (lv' := [(6, .int x6_7), (0, .ref x0), (1, .ref x1), (2, .int x2), (4, .int x4), (5, .int x5)]) hx hb dX5_partBy_84 hl (by decide) rfl (fun ls hl => ?_)
      refine lv_aload_n hx hb dX5_partBy_86 rfl (lv_at hl 2 rfl) ?_
      obtain ⟨a8, h1, hf⟩ := bs hf
      refine am_gr X hS fl_X5_66 rfl h1 dX5_partBy_87 ?_
      refine lv_iload hx hb dX5_partBy_90 (lv_at hl 0 rfl) ?_
      obtain ⟨v9, h1, hf⟩ := bs hf
      refine am_ald X hS h1 dX5_partBy_92 ?_
      refine lv_if_le (tgt := 135) hx hb dX5_partBy_93 (by decide) (fun q10 => ?_) (fun q10 => ?_)
      · have hf := ifp hf q10
        exact hj135 x5 mm H locs ls hf hS (lv_sub hl [1, 2, 3, 4, 5] rfl)
      · have hf := ifn hf q10
        refine lv_aload_n hx hb dX5_partBy_96 rfl (lv_at hl 2 rfl) ?_
        obtain ⟨a11, h1, hf⟩ := bs hf
        refine am_gr X hS fl_X5_73 rfl h1 dX5_partBy_97 ?_
        refine lv_iload hx hb dX5_partBy_100 (lv_at hl 0 rfl) ?_
        refine lv_dup2_11 hx hb dX5_partBy_102 rfl rfl ?_
        obtain ⟨v12, h1, hf⟩ := bs hf
        refine am_ald X hS h1 dX5_partBy_103 ?_
        refine lv_aload_n hx hb dX5_partBy_104 rfl (lv_at hl 2 rfl) ?_
        obtain ⟨a13, h1, hf⟩ := bs hf
        refine am_gr X hS fl_X5_66 rfl h1 dX5_partBy_105 ?_
        refine lv_iload hx hb dX5_partBy_108 (lv_at hl 0 rfl) ?_
        obtain ⟨v14, h1, hf⟩ := bs hf
        refine am_ald X hS h1 dX5_partBy_110 ?_
        refine lv_iadd hx hb dX5_partBy_111 ?_
        obtain ⟨m15, h1, hf⟩ := bs hf
        refine am_ast X hS h1 dX5_partBy_112 (fun H locs hS => ?_)
        refine lv_aload_n hx hb dX5_partBy_113 rfl (lv_at hl 2 rfl) ?_
        obtain ⟨a16, h1, hf⟩ := bs hf
        refine am_gr X hS fl_X5_76 rfl h1 dX5_partBy_114 ?_
        refine lv_iload hx hb dX5_partBy_117 (lv_at hl 0 rfl) ?_
        refine lv_aload_n hx hb dX5_partBy_119 rfl (lv_at hl 1 rfl) ?_
        obtain ⟨a17, h1, hf⟩ := bs hf
        refine am_gr X hS fl_X5_25 rfl h1 dX5_partBy_120 ?_
        refine lv_iload hx hb dX5_partBy_123 (lv_at hl 5 rfl) ?_
        obtain ⟨v18, h1, hf⟩ := bs hf
        refine am_ald X hS h1 dX5_partBy_125 ?_
        obtain ⟨m19, h1, hf⟩ := bs hf
        refine am_ast X hS h1 dX5_partBy_126 (fun H locs hS => ?_)
        refine lv_aload_n hx hb dX5_partBy_127 rfl (lv_at hl 2 rfl) ?_
        obtain ⟨a20, h1, hf⟩ := bs hf
        refine am_gr X hS fl_X5_66 rfl h1 dX5_partBy_128 ?_
        refine lv_iload hx hb dX5_partBy_131 (lv_at hl 0 rfl) ?_
        refine lv_iconst (v := 0) hx hb dX5_partBy_133 (by decide) ?_
        obtain ⟨m21, h1, hf⟩ := bs hf
        refine am_ast X hS h1 dX5_partBy_134 (fun H locs hS => ?_)
        exact hj135 x5 m21 H locs ls hf hS (lv_sub hl [1, 2, 3, 4, 5] rfl)
  intro H locs ls hS hl
  refine lv_aload_n hx hb dX5_partBy_0 rfl (lv_at hl 0 rfl) ?_
  obtain ⟨a22, h1, hf⟩ := bs hf
  refine am_gr X hS fl_X5_9 rfl h1 dX5_partBy_1 ?_
  refine lv_iload_n hx hb dX5_partBy_4 rfl (lv_at hl 3 rfl) ?_
  obtain ⟨u0, h0, hf⟩ := bs hf
  obtain ⟨_, hrc⟩ := isO_n h0
  obtain ⟨v23, h1, hf⟩ := bs hf
  refine am_endi hS (am_runV (As := [.int x3]) X (hml.trans hl.1.symm) hS (cX1_parts_ok (l := l) (E := E) h1) mv_X5_62 hrc rfl ⟨Nat.le_trans (by decide) hRa, Nat.le_trans (by decide) hRb⟩ ⟨Nat.zero_le _, Nat.zero_le _⟩ rfl rfl (Nat.le_of_ble_eq_true rfl) dX5_partBy_5) (fun H locs hS => ?_)
  refine lv_if_eq (tgt := 19) hx hb dX5_partBy_8 (by decide) (fun q24 => ?_) (fun q24 => ?_)
  · have hf := ifp hf q24
    exact hj19 mm H locs ls hf hS (lv_sub hl [] rfl)
  · have hf := ifn hf q24
    refine lv_aload_n hx hb dX5_partBy_11 rfl (lv_at hl 1 rfl) ?_
    refine lv_iload_n hx hb dX5_partBy_12 rfl (lv_at hl 2 rfl) ?_
    obtain ⟨u0, h0, hf⟩ := bs hf
    obtain ⟨_, hrc⟩ := isO_n h0
    obtain ⟨v25, h1, hf⟩ := bs hf
    refine am_endi hS (am_runV (As := [.int x2]) X (hml.trans hl.1.symm) hS (cX2_allWithin_ok (l := l) (E := E) h1) mv_X5_36 hrc rfl ⟨Nat.le_trans (by decide) hRa, Nat.le_trans (by decide) hRb⟩ ⟨Nat.zero_le _, Nat.zero_le _⟩ rfl rfl (Nat.le_of_ble_eq_true rfl) dX5_partBy_13) (fun H locs hS => ?_)
    refine lv_if_ne (tgt := 21) hx hb dX5_partBy_16 (by decide) (fun q26 => ?_) (fun q26 => ?_)
    · have hf := ifn hf q26
      refine lv_iload_n hx hb dX5_partBy_21 rfl (lv_at hl 2 rfl) ?_
      refine lv_bipush (v := 7) hx hb dX5_partBy_22 (by decide) ?_
      refine lv_imul hx hb dX5_partBy_24 ?_
      refine lv_topi (fun x4_27 e1 => ?_)
      have hf := lt1_n e1 hf
      refine lv_istore (lv' := [(4, .int x4_27), (0, .ref x0), (1, .ref x1), (2, .int x2), (3, .int x3)]) hx hb dX5_partBy_25 hl (by decide) rfl (fun ls hl => ?_)
      refine lv_iconst (v := 0) hx hb dX5_partBy_27 (by decide) ?_
      refine lv_topi (fun x5_28 e1 => ?_)
      have hf := lt1_n e1 hf
      refine lv_istore (lv' := [(5, .int x5_28), (4, .int x4_27), (0, .ref x0), (1, .ref x1), (2, .int x2), (3, .int x3)]) hx hb dX5_partBy_28 hl (by decide) rfl (fun ls hl => ?_)
      obtain ⟨ex30, hl30, hk30⟩ := bs hf
      refine loop_W (P := fun st => ∀ (H : Heap) (locs : List Loc) (ls : Array Slot), wS E s st.2 H locs → lv_has ls 7 [(0, .ref x0), (1, .ref x1), (2, .int x2), (3, .int x3), (4, .int x4_27), (5, .int st.1)] → W p l e R s m args below meth c H locs 0 0 Q (F0 m 30 ls [])) (ex := ex30) ?_ FU _ hl30 H locs ls hS (lv_sub hl [2, 3, 4, 5, 1, 0] rfl)
      intro st y30 hf hyL30 hyR30 H locs ls hS hl
      obtain ⟨x5, mm⟩ := st
      obtain ⟨x4, rfl⟩ : ∃ z, z = x4_27 := ⟨_, rfl⟩
      have hf : fX5_partBy_b30 (eS E) x0 x1 x2 x3 x4 x5 mm = some y30 := hf
      have hS : wS E s mm H locs := hS
      have hl : lv_has ls 7 [(0, .ref x0), (1, .ref x1), (2, .int x2), (3, .int x3), (4, .int x4), (5, .int x5)] := hl
      unfold fX5_partBy_b30 at hf
      refine lv_iload hx hb dX5_partBy_30 (lv_at hl 5 rfl) ?_
      refine lv_bipush (v := 7) hx hb dX5_partBy_32 (by decide) ?_
      refine lv_icmp_ge (tgt := 69) hx hb dX5_partBy_34 (by decide) (fun q29 => ?_) (fun q29 => ?_)
      · have hf := ifp hf q29
        obtain rfl : mm = ex30 := hyR30 _ (Option.some.inj hf).symm
        exact hj69 x0 x1 x2 x4 mm H locs ls hk30 hS (lv_sub hl [0, 1, 2, 4] rfl)
      · have hf := ifn hf q29
        refine lv_aload_n hx hb dX5_partBy_37 rfl (lv_at hl 0 rfl) ?_
        obtain ⟨a30, h1, hf⟩ := bs hf
        refine am_gr X hS fl_X5_25 rfl h1 dX5_partBy_38 ?_
        refine lv_iload hx hb dX5_partBy_41 (lv_at hl 5 rfl) ?_
        refine lv_aload_n hx hb dX5_partBy_43 rfl (lv_at hl 0 rfl) ?_
        refine lv_aload_n hx hb dX5_partBy_44 rfl (lv_at hl 1 rfl) ?_
        refine lv_iload_n hx hb dX5_partBy_45 rfl (lv_at hl 2 rfl) ?_
        refine lv_iload hx hb dX5_partBy_46 (lv_at hl 5 rfl) ?_
        refine lv_iload_n hx hb dX5_partBy_48 rfl (lv_at hl 3 rfl) ?_
        refine lv_aload_n hx hb dX5_partBy_49 rfl (lv_at hl 1 rfl) ?_
        obtain ⟨a31, h1, hf⟩ := bs hf
        refine am_gr X hS fl_X5_66 rfl h1 dX5_partBy_50 ?_
        refine lv_iload hx hb dX5_partBy_53 (lv_at hl 4 rfl) ?_
        refine lv_iload hx hb dX5_partBy_55 (lv_at hl 5 rfl) ?_
        refine lv_iadd hx hb dX5_partBy_57 ?_
        obtain ⟨v32, h1, hf⟩ := bs hf
        refine am_ald X hS h1 dX5_partBy_58 ?_
        obtain ⟨u0, h0, hf⟩ := bs hf
        obtain ⟨_, hrc⟩ := isO_n h0
        obtain ⟨v33, m34, h1, hf⟩ := bs2 hf
        refine am_endi hS (am_runV (As := [.ref x1, .int x2, .int x5, .int x3, .int v32]) X (hml.trans hl.1.symm) hS (cX5_turnOf_ok (l := l) (E := E) h1) mv_X5_69 hrc rfl ⟨Nat.le_trans (by decide) hRa, Nat.le_trans (by decide) hRb⟩ ⟨Nat.zero_le _, Nat.zero_le _⟩ rfl rfl (Nat.le_of_ble_eq_true rfl) dX5_partBy_59) (fun H locs hS => ?_)
        obtain ⟨m35, h1, hf⟩ := bs hf
        refine am_ast X hS h1 dX5_partBy_62 (fun H locs hS => ?_)
        obtain ⟨x5_36, e1⟩ : ∃ z : Int32, z = x5 + 1 := ⟨_, rfl⟩
        have hf := lt1_n e1 hf
        refine lv_iinc (v := x5_36) (lv' := [(5, .int x5_36), (0, .ref x0), (1, .ref x1), (2, .int x2), (3, .int x3), (4, .int x4)]) hx hb dX5_partBy_63 hl (k := 5) rfl (by rw [e1]; rfl) (by decide) rfl (fun ls hl => ?_)
        refine lv_goto (tgt := 30) hx hb dX5_partBy_66 (by decide) ?_
        exact hyL30 _ (Option.some.inj hf).symm H locs ls hS (lv_sub hl [1, 2, 3, 4, 5, 0] rfl)
    · have hf := ifp hf q26
      exact hj19 mm H locs ls hf hS (lv_sub hl [] rfl)
set_option maxRecDepth 100000 in
theorem cX5_partBy_ok {l : Launch} {E : Ev} {x0 : Nat} {x1 : Nat} {x2 : Int32} {x3 : Int32} {mm : Mem} {r : Int32} {mm1 : Mem} (hf : fX5_partBy (eS E) x0 x1 x2 x3 mm = some (r, mm1)) : CtI l yX5_partBy cX5_partBy 7 (some .boolean) (3) (71) E [.ref x0, .ref x1, .int x2, .int x3] mm r mm1 := by
  refine Met.ofW (cc := cX5_partBy) (maxL := 7) (ret := (some .boolean)) (by decide) rfl ?_
  intro p e s m args below meth c s₁ B hml hv
  obtain ⟨rfl, X, hS, hr, hlocks⟩ := am_in B hv
  refine am_entry (Nat.le_of_ble_eq_true rfl) (fun ls hl => ?_)
  exact wX5_partBy X hml ⟨Nat.le_refl _, Nat.le_refl _⟩ hf (fun pc H locs ls hn hd hS => am_ri X hS hr hn hd hlocks) _ _ ls hS hl
set_option maxHeartbeats 4000000 in
set_option maxRecDepth 100000 in
theorem wX5_joinedBits {p : Program} {l : Launch} {e : Env} {R : Room} {s : State} {m : MethodId} {args : Array Value} {below : List Frame} {meth : Method} {c : Code} {Q : State → Prop} {E : Ev} (X : Cx p s m args c cX5_joinedBits RX5 E) (hml : c.maxLocals = 8) (hR : 3 ≤ R.frames ∧ 71 ≤ R.locals) {x0 : Nat} {x1 : Nat} {x2 : Int32} {x3 : Int32} {mm : Mem} {r : Int32} {mm1 : Mem} (hf : fX5_joinedBits (eS E) x0 x1 x2 x3 mm = some (r, mm1)) (hret : ∀ (pc : Nat) (H : Heap) (locs : List Loc) (ls : Array Slot), narrow .int (.int r) = .int r → decode cX5_joinedBits pc = .ok (.ireturn, 1) → wS E s mm1 H locs → W p l e R s m args below meth c H locs 0 0 Q (F0 m pc ls [.int r])) : ∀ (H : Heap) (locs : List Loc) (ls : Array Slot), wS E s mm H locs → lv_has ls 8 [(0, .ref x0), (1, .ref x1), (2, .int x2), (3, .int x3)] → W p l e R s m args below meth c H locs 0 0 Q (F0 m 0 ls []) := by
  have hx := X.1
  have hb := X.2.1
  have hR1 := hR.1
  have hR2 := hR.2
  have hRa : 3 ≤ R.frames := by omega
  have hRb : 71 ≤ R.locals := by omega
  unfold fX5_joinedBits at hf
  have hj83 : ∀ (x4 : Int32) (mm : Mem) (H : Heap) (locs : List Loc) (ls : Array Slot), fX5_joinedBits_j83 (eS E) x4 mm = some (r, mm1) → wS E s mm H locs → lv_has ls 8 [(4, .int x4)] → W p l e R s m args below meth c H locs 0 0 Q (F0 m 83 ls []) := by
    intro x4 mm H locs ls hf hS hl
    unfold fX5_joinedBits_j83 at hf
    refine lv_iload hx hb dX5_joinedBits_83 (lv_at hl 0 rfl) ?_
    cases hf
    exact hret _ _ _ _ rfl dX5_joinedBits_85 hS
  intro H locs ls hS hl
  refine lv_iconst (v := 0) hx hb dX5_joinedBits_0 (by decide) ?_
  refine lv_topi (fun x4_1 e1 => ?_)
  have hf := lt1_n e1 hf
  refine lv_istore (lv' := [(4, .int x4_1), (0, .ref x0), (1, .ref x1), (2, .int x2), (3, .int x3)]) hx hb dX5_joinedBits_1 hl (by decide) rfl (fun ls hl => ?_)
  refine lv_iconst (v := 0) hx hb dX5_joinedBits_3 (by decide) ?_
  refine lv_topi (fun x5_2 e1 => ?_)
  have hf := lt1_n e1 hf
  refine lv_istore (lv' := [(5, .int x5_2), (4, .int x4_1), (0, .ref x0), (1, .ref x1), (2, .int x2), (3, .int x3)]) hx hb dX5_joinedBits_4 hl (by decide) rfl (fun ls hl => ?_)
  obtain ⟨ex6, hl6, hk6⟩ := bs hf
  refine loop_W (P := fun st => ∀ (H : Heap) (locs : List Loc) (ls : Array Slot), wS E s st.2.2 H locs → lv_has ls 8 [(0, .ref x0), (1, .ref x1), (2, .int x2), (3, .int x3), (4, .int st.1), (5, .int st.2.1)] → W p l e R s m args below meth c H locs 0 0 Q (F0 m 6 ls [])) (ex := ex6) ?_ FU _ hl6 H locs ls hS (lv_sub hl [2, 3, 4, 5, 1, 0] rfl)
  intro st y6 hf hyL6 hyR6 H locs ls hS hl
  obtain ⟨x4, x5, mm⟩ := st
  have hf : fX5_joinedBits_b6 (eS E) x0 x1 x2 x3 x4 x5 mm = some y6 := hf
  have hS : wS E s mm H locs := hS
  have hl : lv_has ls 8 [(0, .ref x0), (1, .ref x1), (2, .int x2), (3, .int x3), (4, .int x4), (5, .int x5)] := hl
  unfold fX5_joinedBits_b6 at hf
  have hj77 : ∀ (x4 : Int32) (x5 : Int32) (mm : Mem) (H : Heap) (locs : List Loc) (ls : Array Slot), fX5_joinedBits_j77 (eS E) x0 x1 x2 x3 x4 x5 mm = some y6 → wS E s mm H locs → lv_has ls 8 [(0, .ref x0), (1, .ref x1), (2, .int x2), (3, .int x3), (4, .int x4), (5, .int x5)] → W p l e R s m args below meth c H locs 0 0 Q (F0 m 77 ls []) := by
    intro x4 x5 mm H locs ls hf hS hl
    unfold fX5_joinedBits_j77 at hf
    obtain ⟨x5_3, e1⟩ : ∃ z : Int32, z = x5 + 1 := ⟨_, rfl⟩
    have hf := lt1_n e1 hf
    refine lv_iinc (v := x5_3) (lv' := [(5, .int x5_3), (0, .ref x0), (1, .ref x1), (2, .int x2), (3, .int x3), (4, .int x4)]) hx hb dX5_joinedBits_77 hl (k := 5) rfl (by rw [e1]; rfl) (by decide) rfl (fun ls hl => ?_)
    refine lv_goto (tgt := 6) hx hb dX5_joinedBits_80 (by decide) ?_
    exact hyL6 _ (Option.some.inj hf).symm H locs ls hS (lv_sub hl [1, 2, 3, 4, 5, 0] rfl)
  refine lv_iload hx hb dX5_joinedBits_6 (lv_at hl 5 rfl) ?_
  refine lv_bipush (v := 7) hx hb dX5_joinedBits_8 (by decide) ?_
  refine lv_icmp_ge (tgt := 83) hx hb dX5_joinedBits_10 (by decide) (fun q4 => ?_) (fun q4 => ?_)
  · have hf := ifp hf q4
    obtain rfl : (x4, mm) = ex6 := hyR6 _ (Option.some.inj hf).symm
    exact hj83 x4 mm H locs ls hk6 hS (lv_sub hl [4] rfl)
  · have hf := ifn hf q4
    refine lv_aload_n hx hb dX5_joinedBits_13 rfl (lv_at hl 0 rfl) ?_
    obtain ⟨a5, h1, hf⟩ := bs hf
    refine am_gr X hS fl_X5_9 rfl h1 dX5_joinedBits_14 ?_
    refine lv_iload_n hx hb dX5_joinedBits_17 rfl (lv_at hl 3 rfl) ?_
    obtain ⟨u0, h0, hf⟩ := bs hf
    obtain ⟨_, hrc⟩ := isO_n h0
    obtain ⟨v6, h1, hf⟩ := bs hf
    refine am_endi hS (am_runV (As := [.int x3]) X (hml.trans hl.1.symm) hS (cX1_parts_ok (l := l) (E := E) h1) mv_X5_62 hrc rfl ⟨Nat.le_trans (by decide) hRa, Nat.le_trans (by decide) hRb⟩ ⟨Nat.zero_le _, Nat.zero_le _⟩ rfl rfl (Nat.le_of_ble_eq_true rfl) dX5_joinedBits_18) (fun H locs hS => ?_)
    refine lv_if_ne (tgt := 83) hx hb dX5_joinedBits_21 (by decide) (fun q7 => ?_) (fun q7 => ?_)
    · have hf := ifn hf q7
      obtain rfl : (x4, mm) = ex6 := hyR6 _ (Option.some.inj hf).symm
      exact hj83 x4 mm H locs ls hk6 hS (lv_sub hl [4] rfl)
    · have hf := ifp hf q7
      refine lv_iload_n hx hb dX5_joinedBits_24 rfl (lv_at hl 2 rfl) ?_
      refine lv_bipush (v := 7) hx hb dX5_joinedBits_25 (by decide) ?_
      refine lv_imul hx hb dX5_joinedBits_27 ?_
      refine lv_iload hx hb dX5_joinedBits_28 (lv_at hl 5 rfl) ?_
      refine lv_iadd hx hb dX5_joinedBits_30 ?_
      refine lv_topi (fun x6_8 e1 => ?_)
      have hf := lt1_n e1 hf
      refine lv_istore (lv' := [(6, .int x6_8), (0, .ref x0), (1, .ref x1), (2, .int x2), (3, .int x3), (4, .int x4), (5, .int x5)]) hx hb dX5_joinedBits_31 hl (by decide) rfl (fun ls hl => ?_)
      refine lv_aload_n hx hb dX5_joinedBits_33 rfl (lv_at hl 2 rfl) ?_
      obtain ⟨a9, h1, hf⟩ := bs hf
      refine am_gr X hS fl_X5_73 rfl h1 dX5_joinedBits_34 ?_
      refine lv_iload hx hb dX5_joinedBits_37 (lv_at hl 0 rfl) ?_
      obtain ⟨v10, h1, hf⟩ := bs hf
      refine am_ald X hS h1 dX5_joinedBits_39 ?_
      refine lv_topi (fun x7_11 e1 => ?_)
      have hf := lt1_n e1 hf
      refine lv_istore (lv' := [(7, .int x7_11), (6, .int x6_8), (0, .ref x0), (1, .ref x1), (2, .int x2), (3, .int x3), (4, .int x4), (5, .int x5)]) hx hb dX5_joinedBits_40 hl (by decide) rfl (fun ls hl => ?_)
      refine lv_iload hx hb dX5_joinedBits_42 (lv_at hl 0 rfl) ?_
      refine lv_if_le (tgt := 77) hx hb dX5_joinedBits_44 (by decide) (fun q12 => ?_) (fun q12 => ?_)
      · have hf := ifp hf q12
        exact hj77 x4 x5 mm H locs ls hf hS (lv_sub hl [2, 3, 4, 5, 6, 7] rfl)
      · have hf := ifn hf q12
        refine lv_aload_n hx hb dX5_joinedBits_47 rfl (lv_at hl 3 rfl) ?_
        obtain ⟨a13, h1, hf⟩ := bs hf
        refine am_gr X hS fl_X5_76 rfl h1 dX5_joinedBits_48 ?_
        refine lv_iload hx hb dX5_joinedBits_51 (lv_at hl 1 rfl) ?_
        obtain ⟨v14, h1, hf⟩ := bs hf
        refine am_ald X hS h1 dX5_joinedBits_53 ?_
        refine lv_aload_n hx hb dX5_joinedBits_54 rfl (lv_at hl 2 rfl) ?_
        refine lv_aload_n hx hb dX5_joinedBits_55 rfl (lv_at hl 3 rfl) ?_
        refine lv_iload_n hx hb dX5_joinedBits_56 rfl (lv_at hl 4 rfl) ?_
        refine lv_iload hx hb dX5_joinedBits_57 (lv_at hl 7 rfl) ?_
        refine lv_iload_n hx hb dX5_joinedBits_59 rfl (lv_at hl 5 rfl) ?_
        refine lv_iload hx hb dX5_joinedBits_60 (lv_at hl 0 rfl) ?_
        obtain ⟨u0, h0, hf⟩ := bs hf
        obtain ⟨_, hrc⟩ := isO_n h0
        obtain ⟨v15, m16, h1, hf⟩ := bs2 hf
        refine am_endi hS (am_runV (As := [.ref x1, .int x2, .int x5, .int x3, .int x7_11]) X (hml.trans hl.1.symm) hS (cX5_turnOf_ok (l := l) (E := E) h1) mv_X5_69 hrc rfl ⟨Nat.le_trans (by decide) hRa, Nat.le_trans (by decide) hRb⟩ ⟨Nat.zero_le _, Nat.zero_le _⟩ rfl rfl (Nat.le_of_ble_eq_true rfl) dX5_joinedBits_62) (fun H locs hS => ?_)
        refine lv_icmp_ne (tgt := 77) hx hb dX5_joinedBits_65 (by decide) (fun q17 => ?_) (fun q17 => ?_)
        · have hf := ifn hf q17
          exact hj77 x4 x5 m16 H locs ls hf hS (lv_sub hl [2, 3, 4, 5, 6, 7] rfl)
        · have hf := ifp hf q17
          refine lv_iload hx hb dX5_joinedBits_68 (lv_at hl 6 rfl) ?_
          refine lv_iconst (v := 1) hx hb dX5_joinedBits_70 (by decide) ?_
          refine lv_iload hx hb dX5_joinedBits_71 (lv_at hl 7 rfl) ?_
          refine lv_ishl hx hb dX5_joinedBits_73 ?_
          refine lv_ior hx hb dX5_joinedBits_74 ?_
          refine lv_topi (fun x4_18 e1 => ?_)
          have hf := lt1_n e1 hf
          refine lv_istore (lv' := [(4, .int x4_18), (7, .int x7_11), (6, .int x6_8), (0, .ref x0), (1, .ref x1), (2, .int x2), (3, .int x3), (5, .int x5)]) hx hb dX5_joinedBits_75 hl (by decide) rfl (fun ls hl => ?_)
          exact hj77 x4_18 x5 m16 H locs ls hf hS (lv_sub hl [3, 4, 5, 6, 0, 7] rfl)
set_option maxRecDepth 100000 in
theorem cX5_joinedBits_ok {l : Launch} {E : Ev} {x0 : Nat} {x1 : Nat} {x2 : Int32} {x3 : Int32} {mm : Mem} {r : Int32} {mm1 : Mem} (hf : fX5_joinedBits (eS E) x0 x1 x2 x3 mm = some (r, mm1)) : CtI l yX5_joinedBits cX5_joinedBits 8 (some .int) (3) (71) E [.ref x0, .ref x1, .int x2, .int x3] mm r mm1 := by
  refine Met.ofW (cc := cX5_joinedBits) (maxL := 8) (ret := (some .int)) (by decide) rfl ?_
  intro p e s m args below meth c s₁ B hml hv
  obtain ⟨rfl, X, hS, hr, hlocks⟩ := am_in B hv
  refine am_entry (Nat.le_of_ble_eq_true rfl) (fun ls hl => ?_)
  exact wX5_joinedBits X hml ⟨Nat.le_refl _, Nat.le_refl _⟩ hf (fun pc H locs ls hn hd hS => am_ri X hS hr hn hd hlocks) _ _ ls hS hl
set_option maxHeartbeats 4000000 in
set_option maxRecDepth 100000 in
theorem wX5_joinBy {p : Program} {l : Launch} {e : Env} {R : Room} {s : State} {m : MethodId} {args : Array Value} {below : List Frame} {meth : Method} {c : Code} {Q : State → Prop} {E : Ev} (X : Cx p s m args c cX5_joinBy RX5 E) (hml : c.maxLocals = 7) (hR : 4 ≤ R.frames ∧ 98 ≤ R.locals) {x0 : Nat} {x1 : Nat} {x2 : Int32} {x3 : Int32} {mm : Mem} {r : Int32} {mm1 : Mem} (hf : fX5_joinBy (eS E) x0 x1 x2 x3 mm = some (r, mm1)) (hret : ∀ (pc : Nat) (H : Heap) (locs : List Loc) (ls : Array Slot), narrow .boolean (.int r) = .int r → decode cX5_joinBy pc = .ok (.ireturn, 1) → wS E s mm1 H locs → W p l e R s m args below meth c H locs 0 0 Q (F0 m pc ls [.int r])) : ∀ (H : Heap) (locs : List Loc) (ls : Array Slot), wS E s mm H locs → lv_has ls 7 [(0, .ref x0), (1, .ref x1), (2, .int x2), (3, .int x3)] → W p l e R s m args below meth c H locs 0 0 Q (F0 m 0 ls []) := by
  have hx := X.1
  have hb := X.2.1
  have hR1 := hR.1
  have hR2 := hR.2
  have hRa : 4 ≤ R.frames := by omega
  have hRb : 98 ≤ R.locals := by omega
  unfold fX5_joinBy at hf
  have hj80 : ∀ (s0 : Int32) (mm : Mem) (H : Heap) (locs : List Loc) (ls : Array Slot), fX5_joinBy_j80 (eS E) s0 mm = some (r, mm1) → wS E s mm H locs → lv_has ls 7 [] → W p l e R s m args below meth c H locs 0 0 Q (F0 m 80 ls [.int s0]) := by
    intro s0 mm H locs ls hf hS hl
    unfold fX5_joinBy_j80 at hf
    obtain ⟨v1, h1, hf⟩ := bs hf
    obtain ⟨rfl, h2⟩ := ckZ_n h1
    cases hf
    exact hret _ _ _ _ h2 dX5_joinBy_80 hS
  have hj70 : ∀ (x4 : Int32) (mm : Mem) (H : Heap) (locs : List Loc) (ls : Array Slot), fX5_joinBy_j70 (eS E) x4 mm = some (r, mm1) → wS E s mm H locs → lv_has ls 7 [(4, .int x4)] → W p l e R s m args below meth c H locs 0 0 Q (F0 m 70 ls []) := by
    intro x4 mm H locs ls hf hS hl
    unfold fX5_joinBy_j70 at hf
    refine lv_iload hx hb dX5_joinBy_70 (lv_at hl 0 rfl) ?_
    refine lv_if_eq (tgt := 79) hx hb dX5_joinBy_72 (by decide) (fun q2 => ?_) (fun q2 => ?_)
    · have hf := ifp hf q2
      refine lv_iconst (v := 0) hx hb dX5_joinBy_79 (by decide) ?_
      exact hj80 0 mm H locs ls hf hS (lv_sub hl [] rfl)
    · have hf := ifn hf q2
      refine lv_iconst (v := 1) hx hb dX5_joinBy_75 (by decide) ?_
      refine lv_goto (tgt := 80) hx hb dX5_joinBy_76 (by decide) ?_
      exact hj80 1 mm H locs ls hf hS (lv_sub hl [] rfl)
  intro H locs ls hS hl
  refine lv_aload_n hx hb dX5_joinBy_0 rfl (lv_at hl 0 rfl) ?_
  refine lv_aload_n hx hb dX5_joinBy_1 rfl (lv_at hl 1 rfl) ?_
  refine lv_iload_n hx hb dX5_joinBy_2 rfl (lv_at hl 2 rfl) ?_
  refine lv_iload_n hx hb dX5_joinBy_3 rfl (lv_at hl 3 rfl) ?_
  obtain ⟨u0, h0, hf⟩ := bs hf
  obtain ⟨_, hrc⟩ := isO_n h0
  obtain ⟨v3, m4, h1, hf⟩ := bs2 hf
  refine am_endi hS (am_runV (As := [.ref x1, .int x2, .int x3]) X (hml.trans hl.1.symm) hS (cX5_joinedBits_ok (l := l) (E := E) h1) mv_X5_79 hrc rfl ⟨Nat.le_trans (by decide) hRa, Nat.le_trans (by decide) hRb⟩ ⟨Nat.zero_le _, Nat.zero_le _⟩ rfl rfl (Nat.le_of_ble_eq_true rfl) dX5_joinBy_4) (fun H locs hS => ?_)
  refine lv_topi (fun x4_5 e1 => ?_)
  have hf := lt1_n e1 hf
  refine lv_istore (lv' := [(4, .int x4_5), (0, .ref x0), (1, .ref x1), (2, .int x2), (3, .int x3)]) hx hb dX5_joinBy_7 hl (by decide) rfl (fun ls hl => ?_)
  refine lv_iconst (v := 0) hx hb dX5_joinBy_9 (by decide) ?_
  refine lv_topi (fun x5_6 e1 => ?_)
  have hf := lt1_n e1 hf
  refine lv_istore (lv' := [(5, .int x5_6), (4, .int x4_5), (0, .ref x0), (1, .ref x1), (2, .int x2), (3, .int x3)]) hx hb dX5_joinBy_10 hl (by decide) rfl (fun ls hl => ?_)
  obtain ⟨ex12, hl12, hk12⟩ := bs hf
  refine loop_W (P := fun st => ∀ (H : Heap) (locs : List Loc) (ls : Array Slot), wS E s st.2 H locs → lv_has ls 7 [(1, .ref x1), (2, .int x2), (4, .int x4_5), (5, .int st.1)] → W p l e R s m args below meth c H locs 0 0 Q (F0 m 12 ls [])) (ex := ex12) ?_ FU _ hl12 H locs ls hS (lv_sub hl [3, 4, 1, 0] rfl)
  intro st y12 hf hyL12 hyR12 H locs ls hS hl
  obtain ⟨x5, mm⟩ := st
  obtain ⟨x4, rfl⟩ : ∃ z, z = x4_5 := ⟨_, rfl⟩
  have hf : fX5_joinBy_b12 (eS E) x1 x2 x4 x5 mm = some y12 := hf
  have hS : wS E s mm H locs := hS
  have hl : lv_has ls 7 [(1, .ref x1), (2, .int x2), (4, .int x4), (5, .int x5)] := hl
  unfold fX5_joinBy_b12 at hf
  have hj64 : ∀ (x5 : Int32) (mm : Mem) (H : Heap) (locs : List Loc) (ls : Array Slot), fX5_joinBy_j64 (eS E) x1 x2 x4 x5 mm = some y12 → wS E s mm H locs → lv_has ls 7 [(1, .ref x1), (2, .int x2), (4, .int x4), (5, .int x5)] → W p l e R s m args below meth c H locs 0 0 Q (F0 m 64 ls []) := by
    intro x5 mm H locs ls hf hS hl
    unfold fX5_joinBy_j64 at hf
    obtain ⟨x5_7, e1⟩ : ∃ z : Int32, z = x5 + 1 := ⟨_, rfl⟩
    have hf := lt1_n e1 hf
    refine lv_iinc (v := x5_7) (lv' := [(5, .int x5_7), (1, .ref x1), (2, .int x2), (4, .int x4)]) hx hb dX5_joinBy_64 hl (k := 3) rfl (by rw [e1]; rfl) (by decide) rfl (fun ls hl => ?_)
    refine lv_goto (tgt := 12) hx hb dX5_joinBy_67 (by decide) ?_
    exact hyL12 _ (Option.some.inj hf).symm H locs ls hS (lv_sub hl [1, 2, 3, 0] rfl)
  refine lv_iload hx hb dX5_joinBy_12 (lv_at hl 3 rfl) ?_
  refine lv_bipush (v := 7) hx hb dX5_joinBy_14 (by decide) ?_
  refine lv_icmp_ge (tgt := 70) hx hb dX5_joinBy_16 (by decide) (fun q8 => ?_) (fun q8 => ?_)
  · have hf := ifp hf q8
    obtain rfl : mm = ex12 := hyR12 _ (Option.some.inj hf).symm
    exact hj70 x4 mm H locs ls hk12 hS (lv_sub hl [2] rfl)
  · have hf := ifn hf q8
    refine lv_iload_n hx hb dX5_joinBy_19 rfl (lv_at hl 1 rfl) ?_
    refine lv_bipush (v := 7) hx hb dX5_joinBy_20 (by decide) ?_
    refine lv_imul hx hb dX5_joinBy_22 ?_
    refine lv_iload hx hb dX5_joinBy_23 (lv_at hl 3 rfl) ?_
    refine lv_iadd hx hb dX5_joinBy_25 ?_
    refine lv_topi (fun x6_9 e1 => ?_)
    have hf := lt1_n e1 hf
    refine lv_istore (lv' := [(6, .int x6_9), (1, .ref x1), (2, .int x2), (4, .int x4), (5, .int x5)]) hx hb dX5_joinBy_26 hl (by decide) rfl (fun ls hl => ?_)
    refine lv_iload hx hb dX5_joinBy_28 (lv_at hl 3 rfl) ?_
    refine lv_iload hx hb dX5_joinBy_30 (lv_at hl 4 rfl) ?_
    refine lv_ishr hx hb dX5_joinBy_32 ?_
    refine lv_iconst (v := 1) hx hb dX5_joinBy_33 (by decide) ?_
    refine lv_iand hx hb dX5_joinBy_34 ?_
    refine lv_iconst (v := 1) hx hb dX5_joinBy_35 (by decide) ?_
    refine lv_icmp_ne (tgt := 64) hx hb dX5_joinBy_36 (by decide) (fun q10 => ?_) (fun q10 => ?_)
    · have hf := ifn hf q10
      exact hj64 x5 mm H locs ls hf hS (lv_sub hl [1, 2, 3, 4] rfl)
    · have hf := ifp hf q10
      refine lv_aload_n hx hb dX5_joinBy_39 rfl (lv_at hl 1 rfl) ?_
      obtain ⟨a11, h1, hf⟩ := bs hf
      refine am_gr X hS fl_X5_66 rfl h1 dX5_joinBy_40 ?_
      refine lv_iload hx hb dX5_joinBy_43 (lv_at hl 0 rfl) ?_
      refine lv_dup2_11 hx hb dX5_joinBy_45 rfl rfl ?_
      obtain ⟨v12, h1, hf⟩ := bs hf
      refine am_ald X hS h1 dX5_joinBy_46 ?_
      refine lv_aload_n hx hb dX5_joinBy_47 rfl (lv_at hl 1 rfl) ?_
      obtain ⟨a13, h1, hf⟩ := bs hf
      refine am_gr X hS fl_X5_73 rfl h1 dX5_joinBy_48 ?_
      refine lv_iload hx hb dX5_joinBy_51 (lv_at hl 0 rfl) ?_
      obtain ⟨v14, h1, hf⟩ := bs hf
      refine am_ald X hS h1 dX5_joinBy_53 ?_
      refine lv_iadd hx hb dX5_joinBy_54 ?_
      obtain ⟨m15, h1, hf⟩ := bs hf
      refine am_ast X hS h1 dX5_joinBy_55 (fun H locs hS => ?_)
      refine lv_aload_n hx hb dX5_joinBy_56 rfl (lv_at hl 1 rfl) ?_
      obtain ⟨a16, h1, hf⟩ := bs hf
      refine am_gr X hS fl_X5_73 rfl h1 dX5_joinBy_57 ?_
      refine lv_iload hx hb dX5_joinBy_60 (lv_at hl 0 rfl) ?_
      refine lv_iconst (v := 0) hx hb dX5_joinBy_62 (by decide) ?_
      obtain ⟨m17, h1, hf⟩ := bs hf
      refine am_ast X hS h1 dX5_joinBy_63 (fun H locs hS => ?_)
      exact hj64 x5 m17 H locs ls hf hS (lv_sub hl [1, 2, 3, 4] rfl)
set_option maxRecDepth 100000 in
theorem cX5_joinBy_ok {l : Launch} {E : Ev} {x0 : Nat} {x1 : Nat} {x2 : Int32} {x3 : Int32} {mm : Mem} {r : Int32} {mm1 : Mem} (hf : fX5_joinBy (eS E) x0 x1 x2 x3 mm = some (r, mm1)) : CtI l yX5_joinBy cX5_joinBy 7 (some .boolean) (4) (98) E [.ref x0, .ref x1, .int x2, .int x3] mm r mm1 := by
  refine Met.ofW (cc := cX5_joinBy) (maxL := 7) (ret := (some .boolean)) (by decide) rfl ?_
  intro p e s m args below meth c s₁ B hml hv
  obtain ⟨rfl, X, hS, hr, hlocks⟩ := am_in B hv
  refine am_entry (Nat.le_of_ble_eq_true rfl) (fun ls hl => ?_)
  exact wX5_joinBy X hml ⟨Nat.le_refl _, Nat.le_refl _⟩ hf (fun pc H locs ls hn hd hS => am_ri X hS hr hn hd hlocks) _ _ ls hS hl
set_option maxHeartbeats 4000000 in
set_option maxRecDepth 100000 in
theorem wX5_turnByAllGlasses {p : Program} {l : Launch} {e : Env} {R : Room} {s : State} {m : MethodId} {args : Array Value} {below : List Frame} {meth : Method} {c : Code} {Q : State → Prop} {E : Ev} (X : Cx p s m args c cX5_turnByAllGlasses RX5 E) (hml : c.maxLocals = 5) (hR : 3 ≤ R.frames ∧ 71 ≤ R.locals) {x0 : Nat} {x1 : Nat} {x2 : Int32} {x3 : Int32} {mm : Mem} {mm1 : Mem} (hf : fX5_turnByAllGlasses (eS E) x0 x1 x2 x3 mm = some mm1) (hret : ∀ (pc : Nat) (H : Heap) (locs : List Loc) (ls : Array Slot), decode cX5_turnByAllGlasses pc = .ok (.return_, 1) → wS E s mm1 H locs → W p l e R s m args below meth c H locs 0 0 Q (F0 m pc ls [])) : ∀ (H : Heap) (locs : List Loc) (ls : Array Slot), wS E s mm H locs → lv_has ls 5 [(0, .ref x0), (1, .ref x1), (2, .int x2), (3, .int x3)] → W p l e R s m args below meth c H locs 0 0 Q (F0 m 0 ls []) := by
  have hx := X.1
  have hb := X.2.1
  have hR1 := hR.1
  have hR2 := hR.2
  have hRa : 3 ≤ R.frames := by omega
  have hRb : 71 ≤ R.locals := by omega
  unfold fX5_turnByAllGlasses at hf
  have hj48 : ∀ (mm : Mem) (H : Heap) (locs : List Loc) (ls : Array Slot), fX5_turnByAllGlasses_j48 (eS E) mm = some mm1 → wS E s mm H locs → lv_has ls 5 [] → W p l e R s m args below meth c H locs 0 0 Q (F0 m 48 ls []) := by
    intro mm H locs ls hf hS hl
    unfold fX5_turnByAllGlasses_j48 at hf
    cases hf
    exact hret _ _ _ _ dX5_turnByAllGlasses_48 hS
  intro H locs ls hS hl
  refine lv_iconst (v := 0) hx hb dX5_turnByAllGlasses_0 (by decide) ?_
  refine lv_topi (fun x4_1 e1 => ?_)
  have hf := lt1_n e1 hf
  refine lv_istore (lv' := [(4, .int x4_1), (0, .ref x0), (1, .ref x1), (2, .int x2), (3, .int x3)]) hx hb dX5_turnByAllGlasses_1 hl (by decide) rfl (fun ls hl => ?_)
  obtain ⟨ex3, hl3, hk3⟩ := bs hf
  refine loop_W (P := fun st => ∀ (H : Heap) (locs : List Loc) (ls : Array Slot), wS E s st.2 H locs → lv_has ls 5 [(0, .ref x0), (1, .ref x1), (2, .int x2), (3, .int x3), (4, .int st.1)] → W p l e R s m args below meth c H locs 0 0 Q (F0 m 3 ls [])) (ex := ex3) ?_ FU _ hl3 H locs ls hS (lv_sub hl [1, 2, 3, 4, 0] rfl)
  intro st y3 hf hyL3 hyR3 H locs ls hS hl
  obtain ⟨x4, mm⟩ := st
  have hf : fX5_turnByAllGlasses_b3 (eS E) x0 x1 x2 x3 x4 mm = some y3 := hf
  have hS : wS E s mm H locs := hS
  have hl : lv_has ls 5 [(0, .ref x0), (1, .ref x1), (2, .int x2), (3, .int x3), (4, .int x4)] := hl
  unfold fX5_turnByAllGlasses_b3 at hf
  refine lv_iload hx hb dX5_turnByAllGlasses_3 (lv_at hl 4 rfl) ?_
  refine lv_aload_n hx hb dX5_turnByAllGlasses_5 rfl (lv_at hl 0 rfl) ?_
  obtain ⟨a2, h1, hf⟩ := bs hf
  refine am_gr X hS fl_X5_9 rfl h1 dX5_turnByAllGlasses_6 ?_
  obtain ⟨v3, h1, hf⟩ := bs hf
  refine am_gi X hS fl_X5_83 rfl h1 dX5_turnByAllGlasses_9 ?_
  refine lv_icmp_ge (tgt := 48) hx hb dX5_turnByAllGlasses_12 (by decide) (fun q4 => ?_) (fun q4 => ?_)
  · have hf := ifp hf q4
    obtain rfl : mm = ex3 := hyR3 _ (Option.some.inj hf).symm
    exact hj48 mm H locs ls hk3 hS (lv_sub hl [] rfl)
  · have hf := ifn hf q4
    refine lv_aload_n hx hb dX5_turnByAllGlasses_15 rfl (lv_at hl 0 rfl) ?_
    obtain ⟨a5, h1, hf⟩ := bs hf
    refine am_gr X hS fl_X5_28 rfl h1 dX5_turnByAllGlasses_16 ?_
    refine lv_iload hx hb dX5_turnByAllGlasses_19 (lv_at hl 4 rfl) ?_
    refine lv_aload_n hx hb dX5_turnByAllGlasses_21 rfl (lv_at hl 0 rfl) ?_
    refine lv_aload_n hx hb dX5_turnByAllGlasses_22 rfl (lv_at hl 1 rfl) ?_
    refine lv_iload_n hx hb dX5_turnByAllGlasses_23 rfl (lv_at hl 2 rfl) ?_
    refine lv_iload_n hx hb dX5_turnByAllGlasses_24 rfl (lv_at hl 3 rfl) ?_
    refine lv_iload hx hb dX5_turnByAllGlasses_25 (lv_at hl 4 rfl) ?_
    refine lv_aload_n hx hb dX5_turnByAllGlasses_27 rfl (lv_at hl 1 rfl) ?_
    obtain ⟨a6, h1, hf⟩ := bs hf
    refine am_gr X hS fl_X5_66 rfl h1 dX5_turnByAllGlasses_28 ?_
    refine lv_iload_n hx hb dX5_turnByAllGlasses_31 rfl (lv_at hl 2 rfl) ?_
    refine lv_bipush (v := 7) hx hb dX5_turnByAllGlasses_32 (by decide) ?_
    refine lv_imul hx hb dX5_turnByAllGlasses_34 ?_
    refine lv_iload_n hx hb dX5_turnByAllGlasses_35 rfl (lv_at hl 3 rfl) ?_
    refine lv_iadd hx hb dX5_turnByAllGlasses_36 ?_
    obtain ⟨v7, h1, hf⟩ := bs hf
    refine am_ald X hS h1 dX5_turnByAllGlasses_37 ?_
    obtain ⟨u0, h0, hf⟩ := bs hf
    obtain ⟨_, hrc⟩ := isO_n h0
    obtain ⟨v8, m9, h1, hf⟩ := bs2 hf
    refine am_endi hS (am_runV (As := [.ref x1, .int x2, .int x3, .int x4, .int v7]) X (hml.trans hl.1.symm) hS (cX5_turnOf_ok (l := l) (E := E) h1) mv_X5_69 hrc rfl ⟨Nat.le_trans (by decide) hRa, Nat.le_trans (by decide) hRb⟩ ⟨Nat.zero_le _, Nat.zero_le _⟩ rfl rfl (Nat.le_of_ble_eq_true rfl) dX5_turnByAllGlasses_38) (fun H locs hS => ?_)
    obtain ⟨m10, h1, hf⟩ := bs hf
    refine am_ast X hS h1 dX5_turnByAllGlasses_41 (fun H locs hS => ?_)
    obtain ⟨x4_11, e1⟩ : ∃ z : Int32, z = x4 + 1 := ⟨_, rfl⟩
    have hf := lt1_n e1 hf
    refine lv_iinc (v := x4_11) (lv' := [(4, .int x4_11), (0, .ref x0), (1, .ref x1), (2, .int x2), (3, .int x3)]) hx hb dX5_turnByAllGlasses_42 hl (k := 4) rfl (by rw [e1]; rfl) (by decide) rfl (fun ls hl => ?_)
    refine lv_goto (tgt := 3) hx hb dX5_turnByAllGlasses_45 (by decide) ?_
    exact hyL3 _ (Option.some.inj hf).symm H locs ls hS (lv_sub hl [1, 2, 3, 4, 0] rfl)
set_option maxRecDepth 100000 in
theorem cX5_turnByAllGlasses_ok {l : Launch} {E : Ev} {x0 : Nat} {x1 : Nat} {x2 : Int32} {x3 : Int32} {mm : Mem} {mm1 : Mem} (hf : fX5_turnByAllGlasses (eS E) x0 x1 x2 x3 mm = some mm1) : CtV l yX5_turnByAllGlasses cX5_turnByAllGlasses 5 none (3) (71) E [.ref x0, .ref x1, .int x2, .int x3] mm mm1 := by
  refine Met.ofW (cc := cX5_turnByAllGlasses) (maxL := 5) (ret := none) (by decide) rfl ?_
  intro p e s m args below meth c s₁ B hml hv
  obtain ⟨rfl, X, hS, hr, hlocks⟩ := am_in B hv
  refine am_entry (Nat.le_of_ble_eq_true rfl) (fun ls hl => ?_)
  exact wX5_turnByAllGlasses X hml ⟨Nat.le_refl _, Nat.le_refl _⟩ hf (fun pc H locs ls hd hS => am_rv X hS hr hd hlocks) _ _ ls hS hl
set_option maxHeartbeats 4000000 in
set_option maxRecDepth 100000 in
theorem wX5_sumOfTurns {p : Program} {l : Launch} {e : Env} {R : Room} {s : State} {m : MethodId} {args : Array Value} {below : List Frame} {meth : Method} {c : Code} {Q : State → Prop} {E : Ev} (X : Cx p s m args c cX5_sumOfTurns RX5 E) (hml : c.maxLocals = 4) (hR : 1 ≤ R.frames ∧ 21 ≤ R.locals) {x0 : Nat} {x1 : Int32} {mm : Mem} {r : Int32} (hf : fX5_sumOfTurns (eS E) x0 x1 mm = some r) (hret : ∀ (pc : Nat) (H : Heap) (locs : List Loc) (ls : Array Slot), narrow .int (.int r) = .int r → decode cX5_sumOfTurns pc = .ok (.ireturn, 1) → wS E s mm H locs → W p l e R s m args below meth c H locs 0 0 Q (F0 m pc ls [.int r])) : ∀ (H : Heap) (locs : List Loc) (ls : Array Slot), wS E s mm H locs → lv_has ls 4 [(0, .ref x0), (1, .int x1)] → W p l e R s m args below meth c H locs 0 0 Q (F0 m 0 ls []) := by
  have hx := X.1
  have hb := X.2.1
  have hR1 := hR.1
  have hR2 := hR.2
  have hRa : 1 ≤ R.frames := by omega
  have hRb : 21 ≤ R.locals := by omega
  unfold fX5_sumOfTurns at hf
  have hj52 : ∀ (x2 : Int32) (H : Heap) (locs : List Loc) (ls : Array Slot), fX5_sumOfTurns_j52 (eS E) x2 mm = some r → wS E s mm H locs → lv_has ls 4 [(2, .int x2)] → W p l e R s m args below meth c H locs 0 0 Q (F0 m 52 ls []) := by
    intro x2 H locs ls hf hS hl
    unfold fX5_sumOfTurns_j52 at hf
    refine lv_iload_n hx hb dX5_sumOfTurns_52 rfl (lv_at hl 0 rfl) ?_
    cases hf
    exact hret _ _ _ _ rfl dX5_sumOfTurns_53 hS
  have hj35 : ∀ (H : Heap) (locs : List Loc) (ls : Array Slot), fX5_sumOfTurns_j35 (eS E) mm = some r → wS E s mm H locs → lv_has ls 4 [] → W p l e R s m args below meth c H locs 0 0 Q (F0 m 35 ls []) := by
    intro H locs ls hf hS hl
    unfold fX5_sumOfTurns_j35 at hf
    refine lv_iconst (v := (-1)) hx hb dX5_sumOfTurns_35 (by decide) ?_
    cases hf
    exact hret _ _ _ _ rfl dX5_sumOfTurns_36 hS
  intro H locs ls hS hl
  refine lv_iconst (v := 0) hx hb dX5_sumOfTurns_0 (by decide) ?_
  refine lv_topi (fun x2_1 e1 => ?_)
  have hf := lt1_n e1 hf
  refine lv_istore_n (lv' := [(2, .int x2_1), (0, .ref x0), (1, .int x1)]) hx hb dX5_sumOfTurns_1 rfl hl (by decide) rfl (fun ls hl => ?_)
  refine lv_iconst (v := 0) hx hb dX5_sumOfTurns_2 (by decide) ?_
  refine lv_topi (fun x3_2 e1 => ?_)
  have hf := lt1_n e1 hf
  refine lv_istore_n (lv' := [(3, .int x3_2), (2, .int x2_1), (0, .ref x0), (1, .int x1)]) hx hb dX5_sumOfTurns_3 rfl hl (by decide) rfl (fun ls hl => ?_)
  obtain ⟨ex4, hl4, hk4⟩ := bs hf
  refine loop_W (P := fun st => ∀ (H : Heap) (locs : List Loc) (ls : Array Slot), wS E s mm H locs → lv_has ls 4 [(0, .ref x0), (1, .int x1), (2, .int st.1), (3, .int st.2)] → W p l e R s m args below meth c H locs 0 0 Q (F0 m 4 ls [])) (ex := ex4) ?_ FU _ hl4 H locs ls hS (lv_sub hl [2, 3, 1, 0] rfl)
  intro st y4 hf hyL4 hyR4 H locs ls hS hl
  obtain ⟨x2, x3⟩ := st
  have hf : fX5_sumOfTurns_b4 (eS E) x0 x1 x2 x3 mm = some y4 := hf
  have hS : wS E s mm H locs := hS
  have hl : lv_has ls 4 [(0, .ref x0), (1, .int x1), (2, .int x2), (3, .int x3)] := hl
  unfold fX5_sumOfTurns_b4 at hf
  have hj46 : ∀ (x2 : Int32) (x3 : Int32) (H : Heap) (locs : List Loc) (ls : Array Slot), fX5_sumOfTurns_j46 (eS E) x0 x1 x2 x3 mm = some y4 → wS E s mm H locs → lv_has ls 4 [(0, .ref x0), (1, .int x1), (2, .int x2), (3, .int x3)] → W p l e R s m args below meth c H locs 0 0 Q (F0 m 46 ls []) := by
    intro x2 x3 H locs ls hf hS hl
    unfold fX5_sumOfTurns_j46 at hf
    obtain ⟨x3_3, e1⟩ : ∃ z : Int32, z = x3 + 1 := ⟨_, rfl⟩
    have hf := lt1_n e1 hf
    refine lv_iinc (v := x3_3) (lv' := [(3, .int x3_3), (0, .ref x0), (1, .int x1), (2, .int x2)]) hx hb dX5_sumOfTurns_46 hl (k := 3) rfl (by rw [e1]; rfl) (by decide) rfl (fun ls hl => ?_)
    refine lv_goto (tgt := 4) hx hb dX5_sumOfTurns_49 (by decide) ?_
    exact hyL4 _ (Option.some.inj hf).symm H locs ls hS (lv_sub hl [1, 2, 3, 0] rfl)
  refine lv_iload_n hx hb dX5_sumOfTurns_4 rfl (lv_at hl 3 rfl) ?_
  refine lv_aload_n hx hb dX5_sumOfTurns_5 rfl (lv_at hl 0 rfl) ?_
  obtain ⟨a4, h1, hf⟩ := bs hf
  refine am_gr X hS fl_X5_9 rfl h1 dX5_sumOfTurns_6 ?_
  obtain ⟨v5, h1, hf⟩ := bs hf
  refine am_gi X hS fl_X5_83 rfl h1 dX5_sumOfTurns_9 ?_
  refine lv_icmp_ge (tgt := 52) hx hb dX5_sumOfTurns_12 (by decide) (fun q6 => ?_) (fun q6 => ?_)
  · have hf := ifp hf q6
    obtain rfl : Sum.inr (x2) = ex4 := hyR4 _ (Option.some.inj hf).symm
    exact hj52 x2 H locs ls hk4 hS (lv_sub hl [2] rfl)
  · have hf := ifn hf q6
    refine lv_iload_n hx hb dX5_sumOfTurns_15 rfl (lv_at hl 1 rfl) ?_
    refine lv_iload_n hx hb dX5_sumOfTurns_16 rfl (lv_at hl 3 rfl) ?_
    refine lv_ishr hx hb dX5_sumOfTurns_17 ?_
    refine lv_iconst (v := 1) hx hb dX5_sumOfTurns_18 (by decide) ?_
    refine lv_iand hx hb dX5_sumOfTurns_19 ?_
    refine lv_iconst (v := 1) hx hb dX5_sumOfTurns_20 (by decide) ?_
    refine lv_icmp_ne (tgt := 46) hx hb dX5_sumOfTurns_21 (by decide) (fun q7 => ?_) (fun q7 => ?_)
    · have hf := ifn hf q7
      exact hj46 x2 x3 H locs ls hf hS hl
    · have hf := ifp hf q7
      refine lv_aload_n hx hb dX5_sumOfTurns_24 rfl (lv_at hl 0 rfl) ?_
      obtain ⟨a8, h1, hf⟩ := bs hf
      refine am_gr X hS fl_X5_9 rfl h1 dX5_sumOfTurns_25 ?_
      refine lv_iload_n hx hb dX5_sumOfTurns_28 rfl (lv_at hl 3 rfl) ?_
      obtain ⟨u0, h0, hf⟩ := bs hf
      obtain ⟨_, hrc⟩ := isO_n h0
      obtain ⟨v9, h1, hf⟩ := bs hf
      refine am_endi hS (am_runV (As := [.int x3]) X (hml.trans hl.1.symm) hS (cX1_parts_ok (l := l) (E := E) h1) mv_X5_62 hrc rfl ⟨Nat.le_trans (by decide) hRa, Nat.le_trans (by decide) hRb⟩ ⟨Nat.zero_le _, Nat.zero_le _⟩ rfl rfl (Nat.le_of_ble_eq_true rfl) dX5_sumOfTurns_29) (fun H locs hS => ?_)
      refine lv_if_ne (tgt := 37) hx hb dX5_sumOfTurns_32 (by decide) (fun q10 => ?_) (fun q10 => ?_)
      · have hf := ifn hf q10
        refine lv_iload_n hx hb dX5_sumOfTurns_37 rfl (lv_at hl 2 rfl) ?_
        refine lv_aload_n hx hb dX5_sumOfTurns_38 rfl (lv_at hl 0 rfl) ?_
        obtain ⟨a11, h1, hf⟩ := bs hf
        refine am_gr X hS fl_X5_28 rfl h1 dX5_sumOfTurns_39 ?_
        refine lv_iload_n hx hb dX5_sumOfTurns_42 rfl (lv_at hl 3 rfl) ?_
        obtain ⟨v12, h1, hf⟩ := bs hf
        refine am_ald X hS h1 dX5_sumOfTurns_43 ?_
        refine lv_iadd hx hb dX5_sumOfTurns_44 ?_
        refine lv_topi (fun x2_13 e1 => ?_)
        have hf := lt1_n e1 hf
        refine lv_istore_n (lv' := [(2, .int x2_13), (0, .ref x0), (1, .int x1), (3, .int x3)]) hx hb dX5_sumOfTurns_45 rfl hl (by decide) rfl (fun ls hl => ?_)
        exact hj46 x2_13 x3 H locs ls hf hS (lv_sub hl [1, 2, 0, 3] rfl)
      · have hf := ifp hf q10
        obtain rfl : Sum.inl () = ex4 := hyR4 _ (Option.some.inj hf).symm
        exact hj35  H locs ls hk4 hS (lv_sub hl [] rfl)
set_option maxRecDepth 100000 in
theorem cX5_sumOfTurns_ok {l : Launch} {E : Ev} {x0 : Nat} {x1 : Int32} {mm : Mem} {r : Int32} (hf : fX5_sumOfTurns (eS E) x0 x1 mm = some r) : CtI l yX5_sumOfTurns cX5_sumOfTurns 4 (some .int) (1) (21) E [.ref x0, .int x1] mm r mm := by
  refine Met.ofW (cc := cX5_sumOfTurns) (maxL := 4) (ret := (some .int)) (by decide) rfl ?_
  intro p e s m args below meth c s₁ B hml hv
  obtain ⟨rfl, X, hS, hr, hlocks⟩ := am_in B hv
  refine am_entry (Nat.le_of_ble_eq_true rfl) (fun ls hl => ?_)
  exact wX5_sumOfTurns X hml ⟨Nat.le_refl _, Nat.le_refl _⟩ hf (fun pc H locs ls hn hd hS => am_ri X hS hr hn hd hlocks) _ _ ls hS hl
set_option maxHeartbeats 4000000 in
set_option maxRecDepth 100000 in
theorem wX6_fitsBook {p : Program} {l : Launch} {e : Env} {R : Room} {s : State} {m : MethodId} {args : Array Value} {below : List Frame} {meth : Method} {c : Code} {Q : State → Prop} {E : Ev} (X : Cx p s m args c cX6_fitsBook RX6 E) (hml : c.maxLocals = 7) (hR : 4 ≤ R.frames ∧ 97 ≤ R.locals) {x0 : Nat} {x1 : Nat} {x2 : Int32} {x3 : Int32} {mm : Mem} {r : Int32} {mm1 : Mem} (hf : fX6_fitsBook (eS E) x0 x1 x2 x3 mm = some (r, mm1)) (hret : ∀ (pc : Nat) (H : Heap) (locs : List Loc) (ls : Array Slot), narrow .boolean (.int r) = .int r → decode cX6_fitsBook pc = .ok (.ireturn, 1) → wS E s mm1 H locs → W p l e R s m args below meth c H locs 0 0 Q (F0 m pc ls [.int r])) : ∀ (H : Heap) (locs : List Loc) (ls : Array Slot), wS E s mm H locs → lv_has ls 7 [(0, .ref x0), (1, .ref x1), (2, .int x2), (3, .int x3)] → W p l e R s m args below meth c H locs 0 0 Q (F0 m 0 ls []) := by
  have hx := X.1
  have hb := X.2.1
  have hR1 := hR.1
  have hR2 := hR.2
  have hRa : 4 ≤ R.frames := by omega
  have hRb : 97 ≤ R.locals := by omega
  unfold fX6_fitsBook at hf
  have hj111 : ∀ (x0 : Nat) (x4 : Nat) (mm : Mem) (H : Heap) (locs : List Loc) (ls : Array Slot), fX6_fitsBook_j111 (eS E) x0 x4 mm = some (r, mm1) → wS E s mm H locs → lv_has ls 7 [(0, .ref x0), (4, .ref x4)] → W p l e R s m args below meth c H locs 0 0 Q (F0 m 111 ls []) := by
    intro x0 x4 mm H locs ls hf hS hl
    unfold fX6_fitsBook_j111 at hf
    refine lv_aload_n hx hb dX6_fitsBook_111 rfl (lv_at hl 0 rfl) ?_
    obtain ⟨a1, h1, hf⟩ := bs hf
    refine am_gr X hS fl_X6_15 rfl h1 dX6_fitsBook_112 ?_
    refine lv_aload hx hb dX6_fitsBook_115 (lv_at hl 1 rfl) ?_
    obtain ⟨u0, h0, hf⟩ := bs hf
    obtain ⟨_, hrc⟩ := isO_n h0
    obtain ⟨v2, h1, hf⟩ := bs hf
    refine am_endi hS (am_runV (As := [.ref x4]) X (hml.trans hl.1.symm) hS (cX0_isRight_ok (l := l) (E := E) h1) mv_X6_83 hrc rfl ⟨Nat.le_trans (by decide) hRa, Nat.le_trans (by decide) hRb⟩ ⟨Nat.zero_le _, Nat.zero_le _⟩ rfl rfl (Nat.le_of_ble_eq_true rfl) dX6_fitsBook_117) (fun H locs hS => ?_)
    obtain ⟨v3, h1, hf⟩ := bs hf
    obtain ⟨rfl, h2⟩ := ckZ_n h1
    cases hf
    exact hret _ _ _ _ h2 dX6_fitsBook_120 hS
  intro H locs ls hS hl
  refine lv_aload_n hx hb dX6_fitsBook_0 rfl (lv_at hl 0 rfl) ?_
  obtain ⟨v4, h1, hf⟩ := bs hf
  refine am_gi X hS fl_X6_39 rfl h1 dX6_fitsBook_1 ?_
  refine lv_aload_n hx hb dX6_fitsBook_4 rfl (lv_at hl 0 rfl) ?_
  obtain ⟨a5, h1, hf⟩ := bs hf
  refine am_gr X hS fl_X6_32 rfl h1 dX6_fitsBook_5 ?_
  obtain ⟨v6, h1, hf⟩ := bs hf
  refine am_len X hS h1 dX6_fitsBook_8 ?_
  refine lv_icmp_lt (tgt := 14) hx hb dX6_fitsBook_9 (by decide) (fun q7 => ?_) (fun q7 => ?_)
  · have hf := ifp hf q7
    refine lv_aload_n hx hb dX6_fitsBook_14 rfl (lv_at hl 0 rfl) ?_
    obtain ⟨a8, h1, hf⟩ := bs hf
    refine am_gr X hS fl_X6_32 rfl h1 dX6_fitsBook_15 ?_
    refine lv_aload_n hx hb dX6_fitsBook_18 rfl (lv_at hl 0 rfl) ?_
    obtain ⟨v9, h1, hf⟩ := bs hf
    refine am_gi X hS fl_X6_39 rfl h1 dX6_fitsBook_19 ?_
    obtain ⟨a10, h1, hf⟩ := bs hf
    refine am_ara X hS h1 dX6_fitsBook_22 ?_
    refine am_topr (fun x4_11 e1 => ?_)
    have hf := lt1_n e1 hf
    refine lv_astore (lv' := [(4, .ref x4_11), (0, .ref x0), (1, .ref x1), (2, .int x2), (3, .int x3)]) hx hb dX6_fitsBook_23 hl (by decide) rfl (fun ls hl => ?_)
    refine lv_aload hx hb dX6_fitsBook_25 (lv_at hl 0 rfl) ?_
    refine lv_iconst (v := 0) hx hb dX6_fitsBook_27 (by decide) ?_
    obtain ⟨m12, h1, hf⟩ := bs hf
    refine am_endv hS (am_runS (As := [.ref x4_11, .int 0]) X (hml.trans hl.1.symm) hS (cJ7_fill_53178_ok (l := l) (E := E) h1) ms_X6_62 ⟨Nat.le_trans (by decide) hRa, Nat.le_trans (by decide) hRb⟩ ⟨Nat.zero_le _, Nat.zero_le _⟩ rfl rfl (Nat.le_of_ble_eq_true rfl) dX6_fitsBook_28) (fun H locs hS => ?_)
    refine lv_aload_n hx hb dX6_fitsBook_31 rfl (lv_at hl 1 rfl) ?_
    obtain ⟨a13, h1, hf⟩ := bs hf
    refine am_gr X hS fl_X6_26 rfl h1 dX6_fitsBook_32 ?_
    refine lv_aload_n hx hb dX6_fitsBook_35 rfl (lv_at hl 2 rfl) ?_
    obtain ⟨u0, h0, hf⟩ := bs hf
    obtain ⟨_, hrc⟩ := isO_n h0
    obtain ⟨m14, h1, hf⟩ := bs hf
    refine am_endv hS (am_runV (As := [.ref x1]) X (hml.trans hl.1.symm) hS (cX2_copyFrom_ok (l := l) (E := E) h1) mv_X6_68 hrc rfl ⟨Nat.le_trans (by decide) hRa, Nat.le_trans (by decide) hRb⟩ ⟨Nat.zero_le _, Nat.zero_le _⟩ rfl rfl (Nat.le_of_ble_eq_true rfl) dX6_fitsBook_36) (fun H locs hS => ?_)
    refine lv_aload_n hx hb dX6_fitsBook_39 rfl (lv_at hl 1 rfl) ?_
    obtain ⟨a15, h1, hf⟩ := bs hf
    refine am_gr X hS fl_X6_19 rfl h1 dX6_fitsBook_40 ?_
    refine lv_aload_n hx hb dX6_fitsBook_43 rfl (lv_at hl 1 rfl) ?_
    obtain ⟨a16, h1, hf⟩ := bs hf
    refine am_gr X hS fl_X6_26 rfl h1 dX6_fitsBook_44 ?_
    refine lv_iload_n hx hb dX6_fitsBook_47 rfl (lv_at hl 3 rfl) ?_
    refine lv_iload_n hx hb dX6_fitsBook_48 rfl (lv_at hl 4 rfl) ?_
    obtain ⟨u0, h0, hf⟩ := bs hf
    obtain ⟨_, hrc⟩ := isO_n h0
    obtain ⟨v17, m18, h1, hf⟩ := bs2 hf
    refine am_endi hS (am_runV (As := [.ref a16, .int x2, .int x3]) X (hml.trans hl.1.symm) hS (cX5_partBy_ok (l := l) (E := E) h1) mv_X6_72 hrc rfl ⟨Nat.le_trans (by decide) hRa, Nat.le_trans (by decide) hRb⟩ ⟨Nat.zero_le _, Nat.zero_le _⟩ rfl rfl (Nat.le_of_ble_eq_true rfl) dX6_fitsBook_49) (fun H locs hS => ?_)
    refine lv_pop hx hb dX6_fitsBook_52 rfl ?_
    refine lv_iconst (v := 0) hx hb dX6_fitsBook_53 (by decide) ?_
    refine lv_topi (fun x5_19 e1 => ?_)
    have hf := lt1_n e1 hf
    refine lv_istore (lv' := [(5, .int x5_19), (4, .ref x4_11), (0, .ref x0), (1, .ref x1), (2, .int x2), (3, .int x3)]) hx hb dX6_fitsBook_54 hl (by decide) rfl (fun ls hl => ?_)
    obtain ⟨ex56, hl56, hk56⟩ := bs hf
    refine loop_W (P := fun st => ∀ (H : Heap) (locs : List Loc) (ls : Array Slot), wS E s st.2 H locs → lv_has ls 7 [(0, .ref x0), (4, .ref x4_11), (5, .int st.1)] → W p l e R s m args below meth c H locs 0 0 Q (F0 m 56 ls [])) (ex := ex56) ?_ FU _ hl56 H locs ls hS (lv_sub hl [2, 1, 0] rfl)
    intro st y56 hf hyL56 hyR56 H locs ls hS hl
    obtain ⟨x5, mm⟩ := st
    obtain ⟨x4, rfl⟩ : ∃ z, z = x4_11 := ⟨_, rfl⟩
    have hf : fX6_fitsBook_b56 (eS E) x0 x4 x5 mm = some y56 := hf
    have hS : wS E s mm H locs := hS
    have hl : lv_has ls 7 [(0, .ref x0), (4, .ref x4), (5, .int x5)] := hl
    unfold fX6_fitsBook_b56 at hf
    have hj105 : ∀ (x5 : Int32) (mm : Mem) (H : Heap) (locs : List Loc) (ls : Array Slot), fX6_fitsBook_j105 (eS E) x0 x4 x5 mm = some y56 → wS E s mm H locs → lv_has ls 7 [(0, .ref x0), (4, .ref x4), (5, .int x5)] → W p l e R s m args below meth c H locs 0 0 Q (F0 m 105 ls []) := by
      intro x5 mm H locs ls hf hS hl
      unfold fX6_fitsBook_j105 at hf
      obtain ⟨x5_20, e1⟩ : ∃ z : Int32, z = x5 + 1 := ⟨_, rfl⟩
      have hf := lt1_n e1 hf
      refine lv_iinc (v := x5_20) (lv' := [(5, .int x5_20), (0, .ref x0), (4, .ref x4)]) hx hb dX6_fitsBook_105 hl (k := 2) rfl (by rw [e1]; rfl) (by decide) rfl (fun ls hl => ?_)
      refine lv_goto (tgt := 56) hx hb dX6_fitsBook_108 (by decide) ?_
      exact hyL56 _ (Option.some.inj hf).symm H locs ls hS (lv_sub hl [1, 2, 0] rfl)
    refine lv_iload hx hb dX6_fitsBook_56 (lv_at hl 2 rfl) ?_
    refine lv_bipush (v := 42) hx hb dX6_fitsBook_58 (by decide) ?_
    refine lv_icmp_ge (tgt := 111) hx hb dX6_fitsBook_60 (by decide) (fun q21 => ?_) (fun q21 => ?_)
    · have hf := ifp hf q21
      obtain rfl : mm = ex56 := hyR56 _ (Option.some.inj hf).symm
      exact hj111 x0 x4 mm H locs ls hk56 hS (lv_sub hl [0, 1] rfl)
    · have hf := ifn hf q21
      refine lv_aload_n hx hb dX6_fitsBook_63 rfl (lv_at hl 0 rfl) ?_
      obtain ⟨a22, h1, hf⟩ := bs hf
      refine am_gr X hS fl_X6_26 rfl h1 dX6_fitsBook_64 ?_
      obtain ⟨a23, h1, hf⟩ := bs hf
      refine am_gr X hS fl_X6_77 rfl h1 dX6_fitsBook_67 ?_
      refine lv_iload hx hb dX6_fitsBook_70 (lv_at hl 2 rfl) ?_
      obtain ⟨v24, h1, hf⟩ := bs hf
      refine am_ald X hS h1 dX6_fitsBook_72 ?_
      refine lv_topi (fun x6_25 e1 => ?_)
      have hf := lt1_n e1 hf
      refine lv_istore (lv' := [(6, .int x6_25), (0, .ref x0), (4, .ref x4), (5, .int x5)]) hx hb dX6_fitsBook_73 hl (by decide) rfl (fun ls hl => ?_)
      refine lv_iload hx hb dX6_fitsBook_75 (lv_at hl 0 rfl) ?_
      refine lv_if_lt (tgt := 105) hx hb dX6_fitsBook_77 (by decide) (fun q26 => ?_) (fun q26 => ?_)
      · have hf := ifp hf q26
        exact hj105 x5 mm H locs ls hf hS (lv_sub hl [1, 2, 3] rfl)
      · have hf := ifn hf q26
        refine lv_iload hx hb dX6_fitsBook_80 (lv_at hl 0 rfl) ?_
        refine lv_bipush (v := 99) hx hb dX6_fitsBook_82 (by decide) ?_
        refine lv_icmp_ge (tgt := 105) hx hb dX6_fitsBook_84 (by decide) (fun q27 => ?_) (fun q27 => ?_)
        · have hf := ifp hf q27
          exact hj105 x5 mm H locs ls hf hS (lv_sub hl [1, 2, 3] rfl)
        · have hf := ifn hf q27
          refine lv_aload hx hb dX6_fitsBook_87 (lv_at hl 2 rfl) ?_
          refine lv_iload hx hb dX6_fitsBook_89 (lv_at hl 0 rfl) ?_
          refine lv_dup2_11 hx hb dX6_fitsBook_91 rfl rfl ?_
          obtain ⟨v28, h1, hf⟩ := bs hf
          refine am_ald X hS h1 dX6_fitsBook_92 ?_
          refine lv_aload_n hx hb dX6_fitsBook_93 rfl (lv_at hl 1 rfl) ?_
          obtain ⟨a29, h1, hf⟩ := bs hf
          refine am_gr X hS fl_X6_26 rfl h1 dX6_fitsBook_94 ?_
          obtain ⟨a30, h1, hf⟩ := bs hf
          refine am_gr X hS fl_X6_80 rfl h1 dX6_fitsBook_97 ?_
          refine lv_iload hx hb dX6_fitsBook_100 (lv_at hl 3 rfl) ?_
          obtain ⟨v31, h1, hf⟩ := bs hf
          refine am_ald X hS h1 dX6_fitsBook_102 ?_
          refine lv_iadd hx hb dX6_fitsBook_103 ?_
          obtain ⟨m32, h1, hf⟩ := bs hf
          refine am_ast X hS h1 dX6_fitsBook_104 (fun H locs hS => ?_)
          exact hj105 x5 m32 H locs ls hf hS (lv_sub hl [1, 2, 3] rfl)
  · have hf := ifn hf q7
    refine lv_iconst (v := 0) hx hb dX6_fitsBook_12 (by decide) ?_
    cases hf
    exact hret _ _ _ _ rfl dX6_fitsBook_13 hS
set_option maxRecDepth 100000 in
theorem cX6_fitsBook_ok {l : Launch} {E : Ev} {x0 : Nat} {x1 : Nat} {x2 : Int32} {x3 : Int32} {mm : Mem} {r : Int32} {mm1 : Mem} (hf : fX6_fitsBook (eS E) x0 x1 x2 x3 mm = some (r, mm1)) : CtI l yX6_fitsBook cX6_fitsBook 7 (some .boolean) (4) (97) E [.ref x0, .ref x1, .int x2, .int x3] mm r mm1 := by
  refine Met.ofW (cc := cX6_fitsBook) (maxL := 7) (ret := (some .boolean)) (by decide) rfl ?_
  intro p e s m args below meth c s₁ B hml hv
  obtain ⟨rfl, X, hS, hr, hlocks⟩ := am_in B hv
  refine am_entry (Nat.le_of_ble_eq_true rfl) (fun ls hl => ?_)
  exact wX6_fitsBook X hml ⟨Nat.le_refl _, Nat.le_refl _⟩ hf (fun pc H locs ls hn hd hS => am_ri X hS hr hn hd hlocks) _ _ ls hS hl
set_option maxHeartbeats 4000000 in
set_option maxRecDepth 100000 in
theorem wX6_gather {p : Program} {l : Launch} {e : Env} {R : Room} {s : State} {m : MethodId} {args : Array Value} {below : List Frame} {meth : Method} {c : Code} {Q : State → Prop} {E : Ev} (X : Cx p s m args c cX6_gather RX6 E) (hml : c.maxLocals = 4) (hR : 5 ≤ R.frames ∧ 123 ≤ R.locals) {x0 : Nat} {x1 : Nat} {mm : Mem} {mm1 : Mem} (hf : fX6_gather (eS E) x0 x1 mm = some mm1) (hret : ∀ (pc : Nat) (H : Heap) (locs : List Loc) (ls : Array Slot), decode cX6_gather pc = .ok (.return_, 1) → wS E s mm1 H locs → W p l e R s m args below meth c H locs 0 0 Q (F0 m pc ls [])) : ∀ (H : Heap) (locs : List Loc) (ls : Array Slot), wS E s mm H locs → lv_has ls 4 [(0, .ref x0), (1, .ref x1)] → W p l e R s m args below meth c H locs 0 0 Q (F0 m 0 ls []) := by
  have hx := X.1
  have hb := X.2.1
  have hR1 := hR.1
  have hR2 := hR.2
  have hRa : 5 ≤ R.frames := by omega
  have hRb : 123 ≤ R.locals := by omega
  unfold fX6_gather at hf
  have hj103 : ∀ (mm : Mem) (H : Heap) (locs : List Loc) (ls : Array Slot), fX6_gather_j103 (eS E) mm = some mm1 → wS E s mm H locs → lv_has ls 4 [] → W p l e R s m args below meth c H locs 0 0 Q (F0 m 103 ls []) := by
    intro mm H locs ls hf hS hl
    unfold fX6_gather_j103 at hf
    cases hf
    exact hret _ _ _ _ dX6_gather_103 hS
  intro H locs ls hS hl
  refine lv_aload_n hx hb dX6_gather_0 rfl (lv_at hl 0 rfl) ?_
  refine lv_iconst (v := 0) hx hb dX6_gather_1 (by decide) ?_
  obtain ⟨m1, h1, hf⟩ := bs hf
  refine am_pi X hS fp_X6_39 rfl h1 dX6_gather_2 (fun H locs hS => ?_)
  refine lv_aload_n hx hb dX6_gather_5 rfl (lv_at hl 0 rfl) ?_
  refine lv_iconst (v := (-1)) hx hb dX6_gather_6 (by decide) ?_
  obtain ⟨m2, h1, hf⟩ := bs hf
  refine am_pi X hS fp_X6_43 rfl h1 dX6_gather_7 (fun H locs hS => ?_)
  refine lv_iconst (v := 0) hx hb dX6_gather_10 (by decide) ?_
  refine lv_topi (fun x2_3 e1 => ?_)
  have hf := lt1_n e1 hf
  refine lv_istore_n (lv' := [(2, .int x2_3), (0, .ref x0), (1, .ref x1)]) hx hb dX6_gather_11 rfl hl (by decide) rfl (fun ls hl => ?_)
  obtain ⟨ex12, hl12, hk12⟩ := bs hf
  refine loop_W (P := fun st => ∀ (H : Heap) (locs : List Loc) (ls : Array Slot), wS E s st.2 H locs → lv_has ls 4 [(0, .ref x0), (1, .ref x1), (2, .int st.1)] → W p l e R s m args below meth c H locs 0 0 Q (F0 m 12 ls [])) (ex := ex12) ?_ FU _ hl12 H locs ls hS (lv_sub hl [1, 2, 0] rfl)
  intro st y12 hf hyL12 hyR12 H locs ls hS hl
  obtain ⟨x2, mm⟩ := st
  have hf : fX6_gather_b12 (eS E) x0 x1 x2 mm = some y12 := hf
  have hS : wS E s mm H locs := hS
  have hl : lv_has ls 4 [(0, .ref x0), (1, .ref x1), (2, .int x2)] := hl
  unfold fX6_gather_b12 at hf
  have hj97 : ∀ (x2 : Int32) (mm : Mem) (H : Heap) (locs : List Loc) (ls : Array Slot), fX6_gather_j97 (eS E) x0 x1 x2 mm = some y12 → wS E s mm H locs → lv_has ls 4 [(0, .ref x0), (1, .ref x1), (2, .int x2)] → W p l e R s m args below meth c H locs 0 0 Q (F0 m 97 ls []) := by
    intro x2 mm H locs ls hf hS hl
    unfold fX6_gather_j97 at hf
    obtain ⟨x2_4, e1⟩ : ∃ z : Int32, z = x2 + 1 := ⟨_, rfl⟩
    have hf := lt1_n e1 hf
    refine lv_iinc (v := x2_4) (lv' := [(2, .int x2_4), (0, .ref x0), (1, .ref x1)]) hx hb dX6_gather_97 hl (k := 2) rfl (by rw [e1]; rfl) (by decide) rfl (fun ls hl => ?_)
    refine lv_goto (tgt := 12) hx hb dX6_gather_100 (by decide) ?_
    exact hyL12 _ (Option.some.inj hf).symm H locs ls hS (lv_sub hl [1, 2, 0] rfl)
  refine lv_iload_n hx hb dX6_gather_12 rfl (lv_at hl 2 rfl) ?_
  refine lv_aload_n hx hb dX6_gather_13 rfl (lv_at hl 0 rfl) ?_
  obtain ⟨a5, h1, hf⟩ := bs hf
  refine am_gr X hS fl_X6_9 rfl h1 dX6_gather_14 ?_
  obtain ⟨v6, h1, hf⟩ := bs hf
  refine am_gi X hS fl_X6_46 rfl h1 dX6_gather_17 ?_
  refine lv_icmp_ge (tgt := 103) hx hb dX6_gather_20 (by decide) (fun q7 => ?_) (fun q7 => ?_)
  · have hf := ifp hf q7
    obtain rfl : mm = ex12 := hyR12 _ (Option.some.inj hf).symm
    exact hj103 mm H locs ls hk12 hS (lv_sub hl [] rfl)
  · have hf := ifn hf q7
    refine lv_iconst (v := 0) hx hb dX6_gather_23 (by decide) ?_
    refine lv_topi (fun x3_8 e1 => ?_)
    have hf := lt1_n e1 hf
    refine lv_istore_n (lv' := [(3, .int x3_8), (0, .ref x0), (1, .ref x1), (2, .int x2)]) hx hb dX6_gather_24 rfl hl (by decide) rfl (fun ls hl => ?_)
    obtain ⟨ex25, hl25, hk25⟩ := bs hf
    refine loop_W (P := fun st => ∀ (H : Heap) (locs : List Loc) (ls : Array Slot), wS E s st.2 H locs → lv_has ls 4 [(0, .ref x0), (1, .ref x1), (2, .int x2), (3, .int st.1)] → W p l e R s m args below meth c H locs 0 0 Q (F0 m 25 ls [])) (ex := ex25) ?_ FU _ hl25 H locs ls hS (lv_sub hl [1, 2, 3, 0] rfl)
    intro st y25 hf hyL25 hyR25 H locs ls hS hl
    obtain ⟨x3, mm⟩ := st
    have hf : fX6_gather_b25 (eS E) x0 x1 x2 x3 mm = some y25 := hf
    have hS : wS E s mm H locs := hS
    have hl : lv_has ls 4 [(0, .ref x0), (1, .ref x1), (2, .int x2), (3, .int x3)] := hl
    unfold fX6_gather_b25 at hf
    have hj91 : ∀ (x3 : Int32) (mm : Mem) (H : Heap) (locs : List Loc) (ls : Array Slot), fX6_gather_j91 (eS E) x0 x1 x2 x3 mm = some y25 → wS E s mm H locs → lv_has ls 4 [(0, .ref x0), (1, .ref x1), (2, .int x2), (3, .int x3)] → W p l e R s m args below meth c H locs 0 0 Q (F0 m 91 ls []) := by
      intro x3 mm H locs ls hf hS hl
      unfold fX6_gather_j91 at hf
      obtain ⟨x3_9, e1⟩ : ∃ z : Int32, z = x3 + 1 := ⟨_, rfl⟩
      have hf := lt1_n e1 hf
      refine lv_iinc (v := x3_9) (lv' := [(3, .int x3_9), (0, .ref x0), (1, .ref x1), (2, .int x2)]) hx hb dX6_gather_91 hl (k := 3) rfl (by rw [e1]; rfl) (by decide) rfl (fun ls hl => ?_)
      refine lv_goto (tgt := 25) hx hb dX6_gather_94 (by decide) ?_
      exact hyL25 _ (Option.some.inj hf).symm H locs ls hS (lv_sub hl [1, 2, 3, 0] rfl)
    have hj78 : ∀ (x3 : Int32) (s0 : Nat) (s1 : Int32) (mm : Mem) (H : Heap) (locs : List Loc) (ls : Array Slot), fX6_gather_j78 (eS E) x0 x1 x2 x3 s0 s1 mm = some y25 → wS E s mm H locs → lv_has ls 4 [(0, .ref x0), (1, .ref x1), (2, .int x2), (3, .int x3)] → W p l e R s m args below meth c H locs 0 0 Q (F0 m 78 ls [.int s1, .ref s0]) := by
      intro x3 s0 s1 mm H locs ls hf hS hl
      unfold fX6_gather_j78 at hf
      obtain ⟨m10, h1, hf⟩ := bs hf
      refine am_pi X hS fp_X6_43 rfl h1 dX6_gather_78 (fun H locs hS => ?_)
      refine lv_aload_n hx hb dX6_gather_81 rfl (lv_at hl 0 rfl) ?_
      refine lv_dup hx hb dX6_gather_82 rfl ?_
      obtain ⟨v11, h1, hf⟩ := bs hf
      refine am_gi X hS fl_X6_39 rfl h1 dX6_gather_83 ?_
      refine lv_iconst (v := 1) hx hb dX6_gather_86 (by decide) ?_
      refine lv_iadd hx hb dX6_gather_87 ?_
      obtain ⟨m12, h1, hf⟩ := bs hf
      refine am_pi X hS fp_X6_39 rfl h1 dX6_gather_88 (fun H locs hS => ?_)
      exact hj91 x3 m12 H locs ls hf hS hl
    refine lv_iload_n hx hb dX6_gather_25 rfl (lv_at hl 3 rfl) ?_
    refine lv_aload_n hx hb dX6_gather_26 rfl (lv_at hl 0 rfl) ?_
    obtain ⟨a13, h1, hf⟩ := bs hf
    refine am_gr X hS fl_X6_9 rfl h1 dX6_gather_27 ?_
    obtain ⟨v14, h1, hf⟩ := bs hf
    refine am_gi X hS fl_X6_51 rfl h1 dX6_gather_30 ?_
    refine lv_icmp_ge (tgt := 97) hx hb dX6_gather_33 (by decide) (fun q15 => ?_) (fun q15 => ?_)
    · have hf := ifp hf q15
      obtain rfl : mm = ex25 := hyR25 _ (Option.some.inj hf).symm
      exact hj97 x2 mm H locs ls hk25 hS (lv_sub hl [0, 1, 2] rfl)
    · have hf := ifn hf q15
      refine lv_aload_n hx hb dX6_gather_36 rfl (lv_at hl 0 rfl) ?_
      obtain ⟨a16, h1, hf⟩ := bs hf
      refine am_gr X hS fl_X6_9 rfl h1 dX6_gather_37 ?_
      refine lv_iload_n hx hb dX6_gather_40 rfl (lv_at hl 3 rfl) ?_
      obtain ⟨u0, h0, hf⟩ := bs hf
      obtain ⟨_, hrc⟩ := isO_n h0
      obtain ⟨v17, h1, hf⟩ := bs hf
      refine am_endi hS (am_runV (As := [.int x3]) X (hml.trans hl.1.symm) hS (cX1_parts_ok (l := l) (E := E) h1) mv_X6_54 hrc rfl ⟨Nat.le_trans (by decide) hRa, Nat.le_trans (by decide) hRb⟩ ⟨Nat.zero_le _, Nat.zero_le _⟩ rfl rfl (Nat.le_of_ble_eq_true rfl) dX6_gather_41) (fun H locs hS => ?_)
      refine lv_if_eq (tgt := 91) hx hb dX6_gather_44 (by decide) (fun q18 => ?_) (fun q18 => ?_)
      · have hf := ifp hf q18
        exact hj91 x3 mm H locs ls hf hS hl
      · have hf := ifn hf q18
        refine lv_aload_n hx hb dX6_gather_47 rfl (lv_at hl 0 rfl) ?_
        refine lv_aload_n hx hb dX6_gather_48 rfl (lv_at hl 1 rfl) ?_
        refine lv_iload_n hx hb dX6_gather_49 rfl (lv_at hl 2 rfl) ?_
        refine lv_iload_n hx hb dX6_gather_50 rfl (lv_at hl 3 rfl) ?_
        obtain ⟨u0, h0, hf⟩ := bs hf
        obtain ⟨_, hrc⟩ := isO_n h0
        obtain ⟨v19, m20, h1, hf⟩ := bs2 hf
        refine am_endi hS (am_runV (As := [.ref x1, .int x2, .int x3]) X (hml.trans hl.1.symm) hS (cX6_fitsBook_ok (l := l) (E := E) h1) mv_X6_58 hrc rfl ⟨Nat.le_trans (by decide) hRa, Nat.le_trans (by decide) hRb⟩ ⟨Nat.zero_le _, Nat.zero_le _⟩ rfl rfl (Nat.le_of_ble_eq_true rfl) dX6_gather_51) (fun H locs hS => ?_)
        refine lv_if_eq (tgt := 91) hx hb dX6_gather_54 (by decide) (fun q21 => ?_) (fun q21 => ?_)
        · have hf := ifp hf q21
          exact hj91 x3 m20 H locs ls hf hS hl
        · have hf := ifn hf q21
          refine lv_aload_n hx hb dX6_gather_57 rfl (lv_at hl 0 rfl) ?_
          refine lv_aload_n hx hb dX6_gather_58 rfl (lv_at hl 0 rfl) ?_
          obtain ⟨v22, h1, hf⟩ := bs hf
          refine am_gi X hS fl_X6_39 rfl h1 dX6_gather_59 ?_
          refine lv_if_ne (tgt := 74) hx hb dX6_gather_62 (by decide) (fun q23 => ?_) (fun q23 => ?_)
          · have hf := ifn hf q23
            refine lv_aload_n hx hb dX6_gather_74 rfl (lv_at hl 0 rfl) ?_
            obtain ⟨v24, h1, hf⟩ := bs hf
            refine am_gi X hS fl_X6_43 rfl h1 dX6_gather_75 ?_
            exact hj78 x3 x0 v24 m20 H locs ls hf hS hl
          · have hf := ifp hf q23
            refine lv_bipush (v := 10) hx hb dX6_gather_65 (by decide) ?_
            refine lv_iload_n hx hb dX6_gather_67 rfl (lv_at hl 2 rfl) ?_
            refine lv_imul hx hb dX6_gather_68 ?_
            refine lv_iload_n hx hb dX6_gather_69 rfl (lv_at hl 3 rfl) ?_
            refine lv_iadd hx hb dX6_gather_70 ?_
            refine lv_goto (tgt := 78) hx hb dX6_gather_71 (by decide) ?_
            exact hj78 x3 x0 ((10 * x2) + x3) m20 H locs ls hf hS hl
set_option maxRecDepth 100000 in
theorem cX6_gather_ok {l : Launch} {E : Ev} {x0 : Nat} {x1 : Nat} {mm : Mem} {mm1 : Mem} (hf : fX6_gather (eS E) x0 x1 mm = some mm1) : CtV l yX6_gather cX6_gather 4 none (5) (123) E [.ref x0, .ref x1] mm mm1 := by
  refine Met.ofW (cc := cX6_gather) (maxL := 4) (ret := none) (by decide) rfl ?_
  intro p e s m args below meth c s₁ B hml hv
  obtain ⟨rfl, X, hS, hr, hlocks⟩ := am_in B hv
  refine am_entry (Nat.le_of_ble_eq_true rfl) (fun ls hl => ?_)
  exact wX6_gather X hml ⟨Nat.le_refl _, Nat.le_refl _⟩ hf (fun pc H locs ls hd hS => am_rv X hS hr hd hlocks) _ _ ls hS hl
set_option maxHeartbeats 4000000 in
set_option maxRecDepth 100000 in
theorem wX6_leftAtWorst {p : Program} {l : Launch} {e : Env} {R : Room} {s : State} {m : MethodId} {args : Array Value} {below : List Frame} {meth : Method} {c : Code} {Q : State → Prop} {E : Ev} (X : Cx p s m args c cX6_leftAtWorst RX6 E) (hml : c.maxLocals = 5) (hR : 1 ≤ R.frames ∧ 23 ≤ R.locals) {x0 : Nat} {x1 : Int32} {mm : Mem} {r : Int32} {mm1 : Mem} (hf : fX6_leftAtWorst (eS E) x0 x1 mm = some (r, mm1)) (hret : ∀ (pc : Nat) (H : Heap) (locs : List Loc) (ls : Array Slot), narrow .int (.int r) = .int r → decode cX6_leftAtWorst pc = .ok (.ireturn, 1) → wS E s mm1 H locs → W p l e R s m args below meth c H locs 0 0 Q (F0 m pc ls [.int r])) : ∀ (H : Heap) (locs : List Loc) (ls : Array Slot), wS E s mm H locs → lv_has ls 5 [(0, .ref x0), (1, .int x1)] → W p l e R s m args below meth c H locs 0 0 Q (F0 m 0 ls []) := by
  have hx := X.1
  have hb := X.2.1
  have hR1 := hR.1
  have hR2 := hR.2
  have hRa : 1 ≤ R.frames := by omega
  have hRb : 23 ≤ R.locals := by omega
  unfold fX6_leftAtWorst at hf
  have hj115 : ∀ (x2 : Int32) (mm : Mem) (H : Heap) (locs : List Loc) (ls : Array Slot), fX6_leftAtWorst_j115 (eS E) x2 mm = some (r, mm1) → wS E s mm H locs → lv_has ls 5 [(2, .int x2)] → W p l e R s m args below meth c H locs 0 0 Q (F0 m 115 ls []) := by
    intro x2 mm H locs ls hf hS hl
    unfold fX6_leftAtWorst_j115 at hf
    refine lv_iload_n hx hb dX6_leftAtWorst_115 rfl (lv_at hl 0 rfl) ?_
    cases hf
    exact hret _ _ _ _ rfl dX6_leftAtWorst_116 hS
  have hj66 : ∀ (x0 : Nat) (x1 : Int32) (x2 : Int32) (mm : Mem) (H : Heap) (locs : List Loc) (ls : Array Slot), fX6_leftAtWorst_j66 (eS E) x0 x1 x2 mm = some (r, mm1) → wS E s mm H locs → lv_has ls 5 [(0, .ref x0), (1, .int x1), (2, .int x2)] → W p l e R s m args below meth c H locs 0 0 Q (F0 m 66 ls []) := by
    intro x0 x1 x2 mm H locs ls hf hS hl
    unfold fX6_leftAtWorst_j66 at hf
    refine lv_iconst (v := 0) hx hb dX6_leftAtWorst_66 (by decide) ?_
    refine lv_topi (fun x3_1 e1 => ?_)
    have hf := lt1_n e1 hf
    refine lv_istore_n (lv' := [(3, .int x3_1), (0, .ref x0), (1, .int x1), (2, .int x2)]) hx hb dX6_leftAtWorst_67 rfl hl (by decide) rfl (fun ls hl => ?_)
    obtain ⟨ex68, hl68, hk68⟩ := bs hf
    refine loop_W (P := fun st => ∀ (H : Heap) (locs : List Loc) (ls : Array Slot), wS E s st.2 H locs → lv_has ls 5 [(0, .ref x0), (1, .int x1), (2, .int x2), (3, .int st.1)] → W p l e R s m args below meth c H locs 0 0 Q (F0 m 68 ls [])) (ex := ex68) ?_ FU _ hl68 H locs ls hS (lv_sub hl [1, 2, 3, 0] rfl)
    intro st y68 hf hyL68 hyR68 H locs ls hS hl
    obtain ⟨x3, mm⟩ := st
    have hf : fX6_leftAtWorst_b68 (eS E) x0 x1 x2 x3 mm = some y68 := hf
    have hS : wS E s mm H locs := hS
    have hl : lv_has ls 5 [(0, .ref x0), (1, .int x1), (2, .int x2), (3, .int x3)] := hl
    unfold fX6_leftAtWorst_b68 at hf
    have hj109 : ∀ (x3 : Int32) (mm : Mem) (H : Heap) (locs : List Loc) (ls : Array Slot), fX6_leftAtWorst_j109 (eS E) x0 x1 x2 x3 mm = some y68 → wS E s mm H locs → lv_has ls 5 [(0, .ref x0), (1, .int x1), (2, .int x2), (3, .int x3)] → W p l e R s m args below meth c H locs 0 0 Q (F0 m 109 ls []) := by
      intro x3 mm H locs ls hf hS hl
      unfold fX6_leftAtWorst_j109 at hf
      obtain ⟨x3_2, e1⟩ : ∃ z : Int32, z = x3 + 1 := ⟨_, rfl⟩
      have hf := lt1_n e1 hf
      refine lv_iinc (v := x3_2) (lv' := [(3, .int x3_2), (0, .ref x0), (1, .int x1), (2, .int x2)]) hx hb dX6_leftAtWorst_109 hl (k := 3) rfl (by rw [e1]; rfl) (by decide) rfl (fun ls hl => ?_)
      refine lv_goto (tgt := 68) hx hb dX6_leftAtWorst_112 (by decide) ?_
      exact hyL68 _ (Option.some.inj hf).symm H locs ls hS (lv_sub hl [1, 2, 3, 0] rfl)
    refine lv_iload_n hx hb dX6_leftAtWorst_68 rfl (lv_at hl 3 rfl) ?_
    refine lv_aload_n hx hb dX6_leftAtWorst_69 rfl (lv_at hl 0 rfl) ?_
    obtain ⟨v3, h1, hf⟩ := bs hf
    refine am_gi X hS fl_X6_39 rfl h1 dX6_leftAtWorst_70 ?_
    refine lv_icmp_ge (tgt := 115) hx hb dX6_leftAtWorst_73 (by decide) (fun q4 => ?_) (fun q4 => ?_)
    · have hf := ifp hf q4
      obtain rfl : mm = ex68 := hyR68 _ (Option.some.inj hf).symm
      exact hj115 x2 mm H locs ls hk68 hS (lv_sub hl [2] rfl)
    · have hf := ifn hf q4
      refine lv_aload_n hx hb dX6_leftAtWorst_76 rfl (lv_at hl 0 rfl) ?_
      obtain ⟨a5, h1, hf⟩ := bs hf
      refine am_gr X hS fl_X6_32 rfl h1 dX6_leftAtWorst_77 ?_
      refine lv_iload_n hx hb dX6_leftAtWorst_80 rfl (lv_at hl 3 rfl) ?_
      obtain ⟨a6, h1, hf⟩ := bs hf
      refine am_ara X hS h1 dX6_leftAtWorst_81 ?_
      refine lv_iload_n hx hb dX6_leftAtWorst_82 rfl (lv_at hl 1 rfl) ?_
      obtain ⟨v7, h1, hf⟩ := bs hf
      refine am_ald X hS h1 dX6_leftAtWorst_83 ?_
      refine lv_topi (fun x4_8 e1 => ?_)
      have hf := lt1_n e1 hf
      refine lv_istore (lv' := [(4, .int x4_8), (0, .ref x0), (1, .int x1), (2, .int x2), (3, .int x3)]) hx hb dX6_leftAtWorst_84 hl (by decide) rfl (fun ls hl => ?_)
      refine lv_iload hx hb dX6_leftAtWorst_86 (lv_at hl 0 rfl) ?_
      refine lv_if_lt (tgt := 109) hx hb dX6_leftAtWorst_88 (by decide) (fun q9 => ?_) (fun q9 => ?_)
      · have hf := ifp hf q9
        exact hj109 x3 mm H locs ls hf hS (lv_sub hl [1, 2, 3, 4] rfl)
      · have hf := ifn hf q9
        refine lv_iload hx hb dX6_leftAtWorst_91 (lv_at hl 0 rfl) ?_
        refine lv_aload_n hx hb dX6_leftAtWorst_93 rfl (lv_at hl 1 rfl) ?_
        obtain ⟨a10, h1, hf⟩ := bs hf
        refine am_gr X hS fl_X6_35 rfl h1 dX6_leftAtWorst_94 ?_
        obtain ⟨v11, h1, hf⟩ := bs hf
        refine am_len X hS h1 dX6_leftAtWorst_97 ?_
        refine lv_icmp_ge (tgt := 109) hx hb dX6_leftAtWorst_98 (by decide) (fun q12 => ?_) (fun q12 => ?_)
        · have hf := ifp hf q12
          exact hj109 x3 mm H locs ls hf hS (lv_sub hl [1, 2, 3, 4] rfl)
        · have hf := ifn hf q12
          refine lv_aload_n hx hb dX6_leftAtWorst_101 rfl (lv_at hl 1 rfl) ?_
          obtain ⟨a13, h1, hf⟩ := bs hf
          refine am_gr X hS fl_X6_35 rfl h1 dX6_leftAtWorst_102 ?_
          refine lv_iload hx hb dX6_leftAtWorst_105 (lv_at hl 0 rfl) ?_
          refine lv_iconst (v := 0) hx hb dX6_leftAtWorst_107 (by decide) ?_
          obtain ⟨m14, h1, hf⟩ := bs hf
          refine am_ast X hS h1 dX6_leftAtWorst_108 (fun H locs hS => ?_)
          exact hj109 x3 m14 H locs ls hf hS (lv_sub hl [1, 2, 3, 4] rfl)
  intro H locs ls hS hl
  refine lv_iconst (v := 0) hx hb dX6_leftAtWorst_0 (by decide) ?_
  refine lv_topi (fun x2_15 e1 => ?_)
  have hf := lt1_n e1 hf
  refine lv_istore_n (lv' := [(2, .int x2_15), (0, .ref x0), (1, .int x1)]) hx hb dX6_leftAtWorst_1 rfl hl (by decide) rfl (fun ls hl => ?_)
  refine lv_iconst (v := 0) hx hb dX6_leftAtWorst_2 (by decide) ?_
  refine lv_topi (fun x3_16 e1 => ?_)
  have hf := lt1_n e1 hf
  refine lv_istore_n (lv' := [(3, .int x3_16), (2, .int x2_15), (0, .ref x0), (1, .int x1)]) hx hb dX6_leftAtWorst_3 rfl hl (by decide) rfl (fun ls hl => ?_)
  obtain ⟨ex4, hl4, hk4⟩ := bs hf
  refine loop_W (P := fun st => ∀ (H : Heap) (locs : List Loc) (ls : Array Slot), wS E s st.2.2 H locs → lv_has ls 5 [(0, .ref x0), (1, .int x1), (2, .int st.1), (3, .int st.2.1)] → W p l e R s m args below meth c H locs 0 0 Q (F0 m 4 ls [])) (ex := ex4) ?_ FU _ hl4 H locs ls hS (lv_sub hl [2, 3, 1, 0] rfl)
  intro st y4 hf hyL4 hyR4 H locs ls hS hl
  obtain ⟨x2, x3, mm⟩ := st
  have hf : fX6_leftAtWorst_b4 (eS E) x0 x1 x2 x3 mm = some y4 := hf
  have hS : wS E s mm H locs := hS
  have hl : lv_has ls 5 [(0, .ref x0), (1, .int x1), (2, .int x2), (3, .int x3)] := hl
  unfold fX6_leftAtWorst_b4 at hf
  have hj60 : ∀ (x2 : Int32) (x3 : Int32) (mm : Mem) (H : Heap) (locs : List Loc) (ls : Array Slot), fX6_leftAtWorst_j60 (eS E) x0 x1 x2 x3 mm = some y4 → wS E s mm H locs → lv_has ls 5 [(0, .ref x0), (1, .int x1), (2, .int x2), (3, .int x3)] → W p l e R s m args below meth c H locs 0 0 Q (F0 m 60 ls []) := by
    intro x2 x3 mm H locs ls hf hS hl
    unfold fX6_leftAtWorst_j60 at hf
    obtain ⟨x3_17, e1⟩ : ∃ z : Int32, z = x3 + 1 := ⟨_, rfl⟩
    have hf := lt1_n e1 hf
    refine lv_iinc (v := x3_17) (lv' := [(3, .int x3_17), (0, .ref x0), (1, .int x1), (2, .int x2)]) hx hb dX6_leftAtWorst_60 hl (k := 3) rfl (by rw [e1]; rfl) (by decide) rfl (fun ls hl => ?_)
    refine lv_goto (tgt := 4) hx hb dX6_leftAtWorst_63 (by decide) ?_
    exact hyL4 _ (Option.some.inj hf).symm H locs ls hS (lv_sub hl [1, 2, 3, 0] rfl)
  refine lv_iload_n hx hb dX6_leftAtWorst_4 rfl (lv_at hl 3 rfl) ?_
  refine lv_aload_n hx hb dX6_leftAtWorst_5 rfl (lv_at hl 0 rfl) ?_
  obtain ⟨v18, h1, hf⟩ := bs hf
  refine am_gi X hS fl_X6_39 rfl h1 dX6_leftAtWorst_6 ?_
  refine lv_icmp_ge (tgt := 66) hx hb dX6_leftAtWorst_9 (by decide) (fun q19 => ?_) (fun q19 => ?_)
  · have hf := ifp hf q19
    obtain rfl : (x2, mm) = ex4 := hyR4 _ (Option.some.inj hf).symm
    exact hj66 x0 x1 x2 mm H locs ls hk4 hS (lv_sub hl [0, 1, 2] rfl)
  · have hf := ifn hf q19
    refine lv_aload_n hx hb dX6_leftAtWorst_12 rfl (lv_at hl 0 rfl) ?_
    obtain ⟨a20, h1, hf⟩ := bs hf
    refine am_gr X hS fl_X6_32 rfl h1 dX6_leftAtWorst_13 ?_
    refine lv_iload_n hx hb dX6_leftAtWorst_16 rfl (lv_at hl 3 rfl) ?_
    obtain ⟨a21, h1, hf⟩ := bs hf
    refine am_ara X hS h1 dX6_leftAtWorst_17 ?_
    refine lv_iload_n hx hb dX6_leftAtWorst_18 rfl (lv_at hl 1 rfl) ?_
    obtain ⟨v22, h1, hf⟩ := bs hf
    refine am_ald X hS h1 dX6_leftAtWorst_19 ?_
    refine lv_topi (fun x4_23 e1 => ?_)
    have hf := lt1_n e1 hf
    refine lv_istore (lv' := [(4, .int x4_23), (0, .ref x0), (1, .int x1), (2, .int x2), (3, .int x3)]) hx hb dX6_leftAtWorst_20 hl (by decide) rfl (fun ls hl => ?_)
    refine lv_iload hx hb dX6_leftAtWorst_22 (lv_at hl 0 rfl) ?_
    refine lv_if_lt (tgt := 60) hx hb dX6_leftAtWorst_24 (by decide) (fun q24 => ?_) (fun q24 => ?_)
    · have hf := ifp hf q24
      exact hj60 x2 x3 mm H locs ls hf hS (lv_sub hl [1, 2, 3, 4] rfl)
    · have hf := ifn hf q24
      refine lv_iload hx hb dX6_leftAtWorst_27 (lv_at hl 0 rfl) ?_
      refine lv_aload_n hx hb dX6_leftAtWorst_29 rfl (lv_at hl 1 rfl) ?_
      obtain ⟨a25, h1, hf⟩ := bs hf
      refine am_gr X hS fl_X6_35 rfl h1 dX6_leftAtWorst_30 ?_
      obtain ⟨v26, h1, hf⟩ := bs hf
      refine am_len X hS h1 dX6_leftAtWorst_33 ?_
      refine lv_icmp_ge (tgt := 60) hx hb dX6_leftAtWorst_34 (by decide) (fun q27 => ?_) (fun q27 => ?_)
      · have hf := ifp hf q27
        exact hj60 x2 x3 mm H locs ls hf hS (lv_sub hl [1, 2, 3, 4] rfl)
      · have hf := ifn hf q27
        refine lv_aload_n hx hb dX6_leftAtWorst_37 rfl (lv_at hl 1 rfl) ?_
        obtain ⟨a28, h1, hf⟩ := bs hf
        refine am_gr X hS fl_X6_35 rfl h1 dX6_leftAtWorst_38 ?_
        refine lv_iload hx hb dX6_leftAtWorst_41 (lv_at hl 0 rfl) ?_
        refine lv_dup2_11 hx hb dX6_leftAtWorst_43 rfl rfl ?_
        obtain ⟨v29, h1, hf⟩ := bs hf
        refine am_ald X hS h1 dX6_leftAtWorst_44 ?_
        refine lv_iconst (v := 1) hx hb dX6_leftAtWorst_45 (by decide) ?_
        refine lv_iadd hx hb dX6_leftAtWorst_46 ?_
        obtain ⟨m30, h1, hf⟩ := bs hf
        refine am_ast X hS h1 dX6_leftAtWorst_47 (fun H locs hS => ?_)
        refine lv_iload_n hx hb dX6_leftAtWorst_48 rfl (lv_at hl 3 rfl) ?_
        refine lv_aload_n hx hb dX6_leftAtWorst_49 rfl (lv_at hl 1 rfl) ?_
        obtain ⟨a31, h1, hf⟩ := bs hf
        refine am_gr X hS fl_X6_35 rfl h1 dX6_leftAtWorst_50 ?_
        refine lv_iload hx hb dX6_leftAtWorst_53 (lv_at hl 0 rfl) ?_
        obtain ⟨v32, h1, hf⟩ := bs hf
        refine am_ald X hS h1 dX6_leftAtWorst_55 ?_
        refine va_mmax hx hb (hml.trans hl.1.symm) X.2.2.2.1 (X.2.2.1 _ (inBi 1165 (by decide +kernel))) (X.2.2.1 _ (inBi 850 (by decide +kernel))) (X.2.2.1 _ (inBi 117 (by decide +kernel))) (X.2.2.1 _ (inBi 851 (by decide +kernel))) (Nat.le_trans (by decide) hRa) (Nat.le_trans (Nat.le_of_ble_eq_true rfl) hRb) (Nat.zero_le _) (Nat.zero_le _) dX6_leftAtWorst_56 ?_
        refine lv_topi (fun x2_33 e1 => ?_)
        have hf := lt1_n e1 hf
        refine lv_istore_n (lv' := [(2, .int x2_33), (4, .int x4_23), (0, .ref x0), (1, .int x1), (3, .int x3)]) hx hb dX6_leftAtWorst_59 rfl hl (by decide) rfl (fun ls hl => ?_)
        exact hj60 x2_33 x3 m30 H locs ls hf hS (lv_sub hl [2, 3, 0, 4] rfl)
set_option maxRecDepth 100000 in
theorem cX6_leftAtWorst_ok {l : Launch} {E : Ev} {x0 : Nat} {x1 : Int32} {mm : Mem} {r : Int32} {mm1 : Mem} (hf : fX6_leftAtWorst (eS E) x0 x1 mm = some (r, mm1)) : CtI l yX6_leftAtWorst cX6_leftAtWorst 5 (some .int) (1) (23) E [.ref x0, .int x1] mm r mm1 := by
  refine Met.ofW (cc := cX6_leftAtWorst) (maxL := 5) (ret := (some .int)) (by decide) rfl ?_
  intro p e s m args below meth c s₁ B hml hv
  obtain ⟨rfl, X, hS, hr, hlocks⟩ := am_in B hv
  refine am_entry (Nat.le_of_ble_eq_true rfl) (fun ls hl => ?_)
  exact wX6_leftAtWorst X hml ⟨Nat.le_refl _, Nat.le_refl _⟩ hf (fun pc H locs ls hn hd hS => am_ri X hS hr hn hd hlocks) _ _ ls hS hl
set_option maxHeartbeats 4000000 in
set_option maxRecDepth 100000 in
theorem wX6_blursBy {p : Program} {l : Launch} {e : Env} {R : Room} {s : State} {m : MethodId} {args : Array Value} {below : List Frame} {meth : Method} {c : Code} {Q : State → Prop} {E : Ev} (X : Cx p s m args c cX6_blursBy RX6 E) (hml : c.maxLocals = 4) (hR : 4 ≤ R.frames ∧ 97 ≤ R.locals) {x0 : Nat} {x1 : Nat} {x2 : Int32} {x3 : Int32} {mm : Mem} {r : Int32} {mm1 : Mem} (hf : fX6_blursBy (eS E) x0 x1 x2 x3 mm = some (r, mm1)) (hret : ∀ (pc : Nat) (H : Heap) (locs : List Loc) (ls : Array Slot), narrow .boolean (.int r) = .int r → decode cX6_blursBy pc = .ok (.ireturn, 1) → wS E s mm1 H locs → W p l e R s m args below meth c H locs 0 0 Q (F0 m pc ls [.int r])) : ∀ (H : Heap) (locs : List Loc) (ls : Array Slot), wS E s mm H locs → lv_has ls 4 [(0, .ref x0), (1, .ref x1), (2, .int x2), (3, .int x3)] → W p l e R s m args below meth c H locs 0 0 Q (F0 m 0 ls []) := by
  have hx := X.1
  have hb := X.2.1
  have hR1 := hR.1
  have hR2 := hR.2
  have hRa : 4 ≤ R.frames := by omega
  have hRb : 97 ≤ R.locals := by omega
  unfold fX6_blursBy at hf
  have hj40 : ∀ (s0 : Int32) (mm : Mem) (H : Heap) (locs : List Loc) (ls : Array Slot), fX6_blursBy_j40 (eS E) s0 mm = some (r, mm1) → wS E s mm H locs → lv_has ls 4 [] → W p l e R s m args below meth c H locs 0 0 Q (F0 m 40 ls [.int s0]) := by
    intro s0 mm H locs ls hf hS hl
    unfold fX6_blursBy_j40 at hf
    obtain ⟨v1, h1, hf⟩ := bs hf
    obtain ⟨rfl, h2⟩ := ckZ_n h1
    cases hf
    exact hret _ _ _ _ h2 dX6_blursBy_40 hS
  have hj39 : ∀ (mm : Mem) (H : Heap) (locs : List Loc) (ls : Array Slot), fX6_blursBy_j39 (eS E) mm = some (r, mm1) → wS E s mm H locs → lv_has ls 4 [] → W p l e R s m args below meth c H locs 0 0 Q (F0 m 39 ls []) := by
    intro mm H locs ls hf hS hl
    unfold fX6_blursBy_j39 at hf
    refine lv_iconst (v := 0) hx hb dX6_blursBy_39 (by decide) ?_
    exact hj40 0 mm H locs ls hf hS hl
  intro H locs ls hS hl
  refine lv_aload_n hx hb dX6_blursBy_0 rfl (lv_at hl 0 rfl) ?_
  obtain ⟨a2, h1, hf⟩ := bs hf
  refine am_gr X hS fl_X6_26 rfl h1 dX6_blursBy_1 ?_
  refine lv_aload_n hx hb dX6_blursBy_4 rfl (lv_at hl 1 rfl) ?_
  obtain ⟨u0, h0, hf⟩ := bs hf
  obtain ⟨_, hrc⟩ := isO_n h0
  obtain ⟨m3, h1, hf⟩ := bs hf
  refine am_endv hS (am_runV (As := [.ref x1]) X (hml.trans hl.1.symm) hS (cX2_copyFrom_ok (l := l) (E := E) h1) mv_X6_68 hrc rfl ⟨Nat.le_trans (by decide) hRa, Nat.le_trans (by decide) hRb⟩ ⟨Nat.zero_le _, Nat.zero_le _⟩ rfl rfl (Nat.le_of_ble_eq_true rfl) dX6_blursBy_5) (fun H locs hS => ?_)
  refine lv_aload_n hx hb dX6_blursBy_8 rfl (lv_at hl 0 rfl) ?_
  obtain ⟨a4, h1, hf⟩ := bs hf
  refine am_gr X hS fl_X6_19 rfl h1 dX6_blursBy_9 ?_
  refine lv_aload_n hx hb dX6_blursBy_12 rfl (lv_at hl 0 rfl) ?_
  obtain ⟨a5, h1, hf⟩ := bs hf
  refine am_gr X hS fl_X6_26 rfl h1 dX6_blursBy_13 ?_
  refine lv_iload_n hx hb dX6_blursBy_16 rfl (lv_at hl 2 rfl) ?_
  refine lv_iload_n hx hb dX6_blursBy_17 rfl (lv_at hl 3 rfl) ?_
  obtain ⟨u0, h0, hf⟩ := bs hf
  obtain ⟨_, hrc⟩ := isO_n h0
  obtain ⟨v6, m7, h1, hf⟩ := bs2 hf
  refine am_endi hS (am_runV (As := [.ref a5, .int x2, .int x3]) X (hml.trans hl.1.symm) hS (cX5_partBy_ok (l := l) (E := E) h1) mv_X6_72 hrc rfl ⟨Nat.le_trans (by decide) hRa, Nat.le_trans (by decide) hRb⟩ ⟨Nat.zero_le _, Nat.zero_le _⟩ rfl rfl (Nat.le_of_ble_eq_true rfl) dX6_blursBy_18) (fun H locs hS => ?_)
  refine lv_if_eq (tgt := 39) hx hb dX6_blursBy_21 (by decide) (fun q8 => ?_) (fun q8 => ?_)
  · have hf := ifp hf q8
    exact hj39 m7 H locs ls hf hS (lv_sub hl [] rfl)
  · have hf := ifn hf q8
    refine lv_aload_n hx hb dX6_blursBy_24 rfl (lv_at hl 0 rfl) ?_
    obtain ⟨a9, h1, hf⟩ := bs hf
    refine am_gr X hS fl_X6_26 rfl h1 dX6_blursBy_25 ?_
    refine lv_iload_n hx hb dX6_blursBy_28 rfl (lv_at hl 2 rfl) ?_
    obtain ⟨u0, h0, hf⟩ := bs hf
    obtain ⟨_, hrc⟩ := isO_n h0
    obtain ⟨v10, h1, hf⟩ := bs hf
    refine am_endi hS (am_runV (As := [.int x2]) X (hml.trans hl.1.symm) hS (cX2_isBlurred_ok (l := l) (E := E) h1) mv_X6_95 hrc rfl ⟨Nat.le_trans (by decide) hRa, Nat.le_trans (by decide) hRb⟩ ⟨Nat.zero_le _, Nat.zero_le _⟩ rfl rfl (Nat.le_of_ble_eq_true rfl) dX6_blursBy_29) (fun H locs hS => ?_)
    refine lv_if_eq (tgt := 39) hx hb dX6_blursBy_32 (by decide) (fun q11 => ?_) (fun q11 => ?_)
    · have hf := ifp hf q11
      exact hj39 m7 H locs ls hf hS (lv_sub hl [] rfl)
    · have hf := ifn hf q11
      refine lv_iconst (v := 1) hx hb dX6_blursBy_35 (by decide) ?_
      refine lv_goto (tgt := 40) hx hb dX6_blursBy_36 (by decide) ?_
      exact hj40 1 m7 H locs ls hf hS (lv_sub hl [] rfl)
set_option maxRecDepth 100000 in
theorem cX6_blursBy_ok {l : Launch} {E : Ev} {x0 : Nat} {x1 : Nat} {x2 : Int32} {x3 : Int32} {mm : Mem} {r : Int32} {mm1 : Mem} (hf : fX6_blursBy (eS E) x0 x1 x2 x3 mm = some (r, mm1)) : CtI l yX6_blursBy cX6_blursBy 4 (some .boolean) (4) (97) E [.ref x0, .ref x1, .int x2, .int x3] mm r mm1 := by
  refine Met.ofW (cc := cX6_blursBy) (maxL := 4) (ret := (some .boolean)) (by decide) rfl ?_
  intro p e s m args below meth c s₁ B hml hv
  obtain ⟨rfl, X, hS, hr, hlocks⟩ := am_in B hv
  refine am_entry (Nat.le_of_ble_eq_true rfl) (fun ls hl => ?_)
  exact wX6_blursBy X hml ⟨Nat.le_refl _, Nat.le_refl _⟩ hf (fun pc H locs ls hn hd hS => am_ri X hS hr hn hd hlocks) _ _ ls hS hl
set_option maxHeartbeats 4000000 in
set_option maxRecDepth 100000 in
theorem wX9_draw {p : Program} {l : Launch} {e : Env} {R : Room} {s : State} {m : MethodId} {args : Array Value} {below : List Frame} {meth : Method} {c : Code} {Q : State → Prop} {E : Ev} (X : Cx p s m args c cX9_draw RX9 E) (hml : c.maxLocals = 2) (hR : 0 ≤ R.frames ∧ 0 ≤ R.locals) {x0 : Nat} {x1 : Int32} {mm : Mem} {r : Int32} {mm1 : Mem} (hf : fX9_draw (eS E) x0 x1 mm = some (r, mm1)) (hret : ∀ (pc : Nat) (H : Heap) (locs : List Loc) (ls : Array Slot), narrow .int (.int r) = .int r → decode cX9_draw pc = .ok (.ireturn, 1) → wS E s mm1 H locs → W p l e R s m args below meth c H locs 0 0 Q (F0 m pc ls [.int r])) : ∀ (H : Heap) (locs : List Loc) (ls : Array Slot), wS E s mm H locs → lv_has ls 2 [(0, .ref x0), (1, .int x1)] → W p l e R s m args below meth c H locs 0 0 Q (F0 m 0 ls []) := by
  have hx := X.1
  have hb := X.2.1
  have hR1 := hR.1
  have hR2 := hR.2
  have hRa : 0 ≤ R.frames := by omega
  have hRb : 0 ≤ R.locals := by omega
  unfold fX9_draw at hf
  have hj37 : ∀ (s0 : Int32) (mm : Mem) (H : Heap) (locs : List Loc) (ls : Array Slot), fX9_draw_j37 (eS E) s0 mm = some (r, mm1) → wS E s mm H locs → lv_has ls 2 [] → W p l e R s m args below meth c H locs 0 0 Q (F0 m 37 ls [.int s0]) := by
    intro s0 mm H locs ls hf hS hl
    unfold fX9_draw_j37 at hf
    cases hf
    exact hret _ _ _ _ rfl dX9_draw_37 hS
  intro H locs ls hS hl
  refine lv_aload_n hx hb dX9_draw_0 rfl (lv_at hl 0 rfl) ?_
  refine lv_aload_n hx hb dX9_draw_1 rfl (lv_at hl 0 rfl) ?_
  obtain ⟨v1, h1, hf⟩ := bs hf
  refine am_gi X hS fl_X9_30 rfl h1 dX9_draw_2 ?_
  refine lv_ldc (v := 1103515245) hx hb X.2.2.2.1 (X.2.2.1 _ (inBi 1318 (by decide +kernel))) dX9_draw_5 ?_
  refine lv_imul hx hb dX9_draw_7 ?_
  refine lv_sipush (v := 12345) hx hb dX9_draw_8 (by decide) ?_
  refine lv_iadd hx hb dX9_draw_11 ?_
  obtain ⟨m2, h1, hf⟩ := bs hf
  refine am_pi X hS fp_X9_30 rfl h1 dX9_draw_12 (fun H locs hS => ?_)
  refine lv_iload_n hx hb dX9_draw_15 rfl (lv_at hl 1 rfl) ?_
  refine lv_iconst (v := 1) hx hb dX9_draw_16 (by decide) ?_
  refine lv_icmp_ge (tgt := 24) hx hb dX9_draw_17 (by decide) (fun q3 => ?_) (fun q3 => ?_)
  · have hf := ifp hf q3
    refine lv_aload_n hx hb dX9_draw_24 rfl (lv_at hl 0 rfl) ?_
    obtain ⟨v4, h1, hf⟩ := bs hf
    refine am_gi X hS fl_X9_30 rfl h1 dX9_draw_25 ?_
    refine lv_bipush (v := 16) hx hb dX9_draw_28 (by decide) ?_
    refine lv_iushr (v := (uShr v4 16)) hx hb dX9_draw_30 rfl ?_
    refine lv_sipush (v := 32767) hx hb dX9_draw_31 (by decide) ?_
    refine lv_iand hx hb dX9_draw_34 ?_
    refine lv_iload_n hx hb dX9_draw_35 rfl (lv_at hl 1 rfl) ?_
    obtain ⟨v5, h1, hf⟩ := bs hf
    obtain ⟨h1, h2⟩ := rmI_n h1
    refine lv_irem hx hb dX9_draw_36 h1 ?_
    rw [h2]
    exact hj37 v5 m2 H locs ls hf hS (lv_sub hl [] rfl)
  · have hf := ifn hf q3
    refine lv_iconst (v := 0) hx hb dX9_draw_20 (by decide) ?_
    refine lv_goto (tgt := 37) hx hb dX9_draw_21 (by decide) ?_
    exact hj37 0 m2 H locs ls hf hS (lv_sub hl [] rfl)
set_option maxRecDepth 100000 in
theorem cX9_draw_ok {l : Launch} {E : Ev} {x0 : Nat} {x1 : Int32} {mm : Mem} {r : Int32} {mm1 : Mem} (hf : fX9_draw (eS E) x0 x1 mm = some (r, mm1)) : CtI l yX9_draw cX9_draw 2 (some .int) (0) (0) E [.ref x0, .int x1] mm r mm1 := by
  refine Met.ofW (cc := cX9_draw) (maxL := 2) (ret := (some .int)) (by decide) rfl ?_
  intro p e s m args below meth c s₁ B hml hv
  obtain ⟨rfl, X, hS, hr, hlocks⟩ := am_in B hv
  refine am_entry (Nat.le_of_ble_eq_true rfl) (fun ls hl => ?_)
  exact wX9_draw X hml ⟨Nat.le_refl _, Nat.le_refl _⟩ hf (fun pc H locs ls hn hd hS => am_ri X hS hr hn hd hlocks) _ _ ls hS hl
set_option maxHeartbeats 4000000 in
set_option maxRecDepth 100000 in
theorem wX9_passThroughGlass {p : Program} {l : Launch} {e : Env} {R : Room} {s : State} {m : MethodId} {args : Array Value} {below : List Frame} {meth : Method} {c : Code} {Q : State → Prop} {E : Ev} (X : Cx p s m args c cX9_passThroughGlass RX9 E) (hml : c.maxLocals = 3) (hR : 5 ≤ R.frames ∧ 124 ≤ R.locals) {x0 : Nat} {mm : Mem} {mm1 : Mem} (hf : fX9_passThroughGlass (eS E) x0 mm = some mm1) (hret : ∀ (pc : Nat) (H : Heap) (locs : List Loc) (ls : Array Slot), decode cX9_passThroughGlass pc = .ok (.return_, 1) → wS E s mm1 H locs → W p l e R s m args below meth c H locs 0 0 Q (F0 m pc ls [])) : ∀ (H : Heap) (locs : List Loc) (ls : Array Slot), wS E s mm H locs → lv_has ls 3 [(0, .ref x0)] → W p l e R s m args below meth c H locs 0 0 Q (F0 m 0 ls []) := by
  have hx := X.1
  have hb := X.2.1
  have hR1 := hR.1
  have hR2 := hR.2
  have hRa : 5 ≤ R.frames := by omega
  have hRb : 124 ≤ R.locals := by omega
  unfold fX9_passThroughGlass at hf
  have hj54 : ∀ (mm : Mem) (H : Heap) (locs : List Loc) (ls : Array Slot), fX9_passThroughGlass_j54 (eS E) mm = some mm1 → wS E s mm H locs → lv_has ls 3 [] → W p l e R s m args below meth c H locs 0 0 Q (F0 m 54 ls []) := by
    intro mm H locs ls hf hS hl
    unfold fX9_passThroughGlass_j54 at hf
    cases hf
    exact hret _ _ _ _ dX9_passThroughGlass_54 hS
  intro H locs ls hS hl
  refine lv_aload_n hx hb dX9_passThroughGlass_0 rfl (lv_at hl 0 rfl) ?_
  refine lv_aload_n hx hb dX9_passThroughGlass_1 rfl (lv_at hl 0 rfl) ?_
  obtain ⟨a1, h1, hf⟩ := bs hf
  refine am_gr X hS fl_X9_9 rfl h1 dX9_passThroughGlass_2 ?_
  obtain ⟨v2, h1, hf⟩ := bs hf
  refine am_gi X hS fl_X9_34 rfl h1 dX9_passThroughGlass_5 ?_
  obtain ⟨u0, h0, hf⟩ := bs hf
  obtain ⟨_, hrc⟩ := isO_n h0
  obtain ⟨v3, m4, h1, hf⟩ := bs2 hf
  refine am_endi hS (am_runV (As := [.int v2]) X (hml.trans hl.1.symm) hS (cX9_draw_ok (l := l) (E := E) h1) mv_X9_52 hrc rfl ⟨Nat.le_trans (by decide) hRa, Nat.le_trans (by decide) hRb⟩ ⟨Nat.zero_le _, Nat.zero_le _⟩ rfl rfl (Nat.le_of_ble_eq_true rfl) dX9_passThroughGlass_8) (fun H locs hS => ?_)
  refine lv_topi (fun x1_5 e1 => ?_)
  have hf := lt1_n e1 hf
  refine lv_istore_n (lv' := [(1, .int x1_5), (0, .ref x0)]) hx hb dX9_passThroughGlass_11 rfl hl (by decide) rfl (fun ls hl => ?_)
  refine lv_aload_n hx hb dX9_passThroughGlass_12 rfl (lv_at hl 1 rfl) ?_
  refine lv_aload_n hx hb dX9_passThroughGlass_13 rfl (lv_at hl 1 rfl) ?_
  obtain ⟨a6, h1, hf⟩ := bs hf
  refine am_gr X hS fl_X9_9 rfl h1 dX9_passThroughGlass_14 ?_
  obtain ⟨v7, h1, hf⟩ := bs hf
  refine am_gi X hS fl_X9_39 rfl h1 dX9_passThroughGlass_17 ?_
  obtain ⟨u0, h0, hf⟩ := bs hf
  obtain ⟨_, hrc⟩ := isO_n h0
  obtain ⟨v8, m9, h1, hf⟩ := bs2 hf
  refine am_endi hS (am_runV (As := [.int v7]) X (hml.trans hl.1.symm) hS (cX9_draw_ok (l := l) (E := E) h1) mv_X9_52 hrc rfl ⟨Nat.le_trans (by decide) hRa, Nat.le_trans (by decide) hRb⟩ ⟨Nat.zero_le _, Nat.zero_le _⟩ rfl rfl (Nat.le_of_ble_eq_true rfl) dX9_passThroughGlass_20) (fun H locs hS => ?_)
  refine lv_topi (fun x2_10 e1 => ?_)
  have hf := lt1_n e1 hf
  refine lv_istore_n (lv' := [(2, .int x2_10), (1, .int x1_5), (0, .ref x0)]) hx hb dX9_passThroughGlass_23 rfl hl (by decide) rfl (fun ls hl => ?_)
  refine lv_aload_n hx hb dX9_passThroughGlass_24 rfl (lv_at hl 2 rfl) ?_
  obtain ⟨a11, h1, hf⟩ := bs hf
  refine am_gr X hS fl_X9_15 rfl h1 dX9_passThroughGlass_25 ?_
  refine lv_aload_n hx hb dX9_passThroughGlass_28 rfl (lv_at hl 2 rfl) ?_
  obtain ⟨a12, h1, hf⟩ := bs hf
  refine am_gr X hS fl_X9_22 rfl h1 dX9_passThroughGlass_29 ?_
  refine lv_iload_n hx hb dX9_passThroughGlass_32 rfl (lv_at hl 1 rfl) ?_
  refine lv_iload_n hx hb dX9_passThroughGlass_33 rfl (lv_at hl 0 rfl) ?_
  obtain ⟨u0, h0, hf⟩ := bs hf
  obtain ⟨_, hrc⟩ := isO_n h0
  obtain ⟨v13, m14, h1, hf⟩ := bs2 hf
  refine am_endi hS (am_runV (As := [.ref a12, .int x1_5, .int x2_10]) X (hml.trans hl.1.symm) hS (cX5_partBy_ok (l := l) (E := E) h1) mv_X9_56 hrc rfl ⟨Nat.le_trans (by decide) hRa, Nat.le_trans (by decide) hRb⟩ ⟨Nat.zero_le _, Nat.zero_le _⟩ rfl rfl (Nat.le_of_ble_eq_true rfl) dX9_passThroughGlass_34) (fun H locs hS => ?_)
  refine lv_if_ne (tgt := 54) hx hb dX9_passThroughGlass_37 (by decide) (fun q15 => ?_) (fun q15 => ?_)
  · have hf := ifn hf q15
    exact hj54 m14 H locs ls hf hS (lv_sub hl [] rfl)
  · have hf := ifp hf q15
    refine lv_aload_n hx hb dX9_passThroughGlass_40 rfl (lv_at hl 2 rfl) ?_
    obtain ⟨a16, h1, hf⟩ := bs hf
    refine am_gr X hS fl_X9_15 rfl h1 dX9_passThroughGlass_41 ?_
    refine lv_aload_n hx hb dX9_passThroughGlass_44 rfl (lv_at hl 2 rfl) ?_
    obtain ⟨a17, h1, hf⟩ := bs hf
    refine am_gr X hS fl_X9_22 rfl h1 dX9_passThroughGlass_45 ?_
    refine lv_iload_n hx hb dX9_passThroughGlass_48 rfl (lv_at hl 1 rfl) ?_
    refine lv_iload_n hx hb dX9_passThroughGlass_49 rfl (lv_at hl 0 rfl) ?_
    obtain ⟨u0, h0, hf⟩ := bs hf
    obtain ⟨_, hrc⟩ := isO_n h0
    obtain ⟨v18, m19, h1, hf⟩ := bs2 hf
    refine am_endi hS (am_runV (As := [.ref a17, .int x1_5, .int x2_10]) X (hml.trans hl.1.symm) hS (cX5_joinBy_ok (l := l) (E := E) h1) mv_X9_62 hrc rfl ⟨Nat.le_trans (by decide) hRa, Nat.le_trans (by decide) hRb⟩ ⟨Nat.zero_le _, Nat.zero_le _⟩ rfl rfl (Nat.le_of_ble_eq_true rfl) dX9_passThroughGlass_50) (fun H locs hS => ?_)
    refine lv_pop hx hb dX9_passThroughGlass_53 rfl ?_
    exact hj54 m19 H locs ls hf hS (lv_sub hl [] rfl)
set_option maxRecDepth 100000 in
theorem cX9_passThroughGlass_ok {l : Launch} {E : Ev} {x0 : Nat} {mm : Mem} {mm1 : Mem} (hf : fX9_passThroughGlass (eS E) x0 mm = some mm1) : CtV l yX9_passThroughGlass cX9_passThroughGlass 3 none (5) (124) E [.ref x0] mm mm1 := by
  refine Met.ofW (cc := cX9_passThroughGlass) (maxL := 3) (ret := none) (by decide) rfl ?_
  intro p e s m args below meth c s₁ B hml hv
  obtain ⟨rfl, X, hS, hr, hlocks⟩ := am_in B hv
  refine am_entry (Nat.le_of_ble_eq_true rfl) (fun ls hl => ?_)
  exact wX9_passThroughGlass X hml ⟨Nat.le_refl _, Nat.le_refl _⟩ hf (fun pc H locs ls hd hS => am_rv X hS hr hd hlocks) _ _ ls hS hl
set_option maxHeartbeats 4000000 in
set_option maxRecDepth 100000 in
theorem wX9_loseByChance {p : Program} {l : Launch} {e : Env} {R : Room} {s : State} {m : MethodId} {args : Array Value} {below : List Frame} {meth : Method} {c : Code} {Q : State → Prop} {E : Ev} (X : Cx p s m args c cX9_loseByChance RX9 E) (hml : c.maxLocals = 4) (hR : 1 ≤ R.frames ∧ 22 ≤ R.locals) {x0 : Nat} {x1 : Int32} {mm : Mem} {mm1 : Mem} (hf : fX9_loseByChance (eS E) x0 x1 mm = some mm1) (hret : ∀ (pc : Nat) (H : Heap) (locs : List Loc) (ls : Array Slot), decode cX9_loseByChance pc = .ok (.return_, 1) → wS E s mm1 H locs → W p l e R s m args below meth c H locs 0 0 Q (F0 m pc ls [])) : ∀ (H : Heap) (locs : List Loc) (ls : Array Slot), wS E s mm H locs → lv_has ls 4 [(0, .ref x0), (1, .int x1)] → W p l e R s m args below meth c H locs 0 0 Q (F0 m 0 ls []) := by
  have hx := X.1
  have hb := X.2.1
  have hR1 := hR.1
  have hR2 := hR.2
  have hRa : 1 ≤ R.frames := by omega
  have hRb : 22 ≤ R.locals := by omega
  unfold fX9_loseByChance at hf
  have hj44 : ∀ (mm : Mem) (H : Heap) (locs : List Loc) (ls : Array Slot), fX9_loseByChance_j44 (eS E) mm = some mm1 → wS E s mm H locs → lv_has ls 4 [] → W p l e R s m args below meth c H locs 0 0 Q (F0 m 44 ls []) := by
    intro mm H locs ls hf hS hl
    unfold fX9_loseByChance_j44 at hf
    cases hf
    exact hret _ _ _ _ dX9_loseByChance_44 hS
  intro H locs ls hS hl
  refine lv_aload_n hx hb dX9_loseByChance_0 rfl (lv_at hl 0 rfl) ?_
  refine lv_bipush (v := 16) hx hb dX9_loseByChance_1 (by decide) ?_
  obtain ⟨u0, h0, hf⟩ := bs hf
  obtain ⟨_, hrc⟩ := isO_n h0
  obtain ⟨v1, m2, h1, hf⟩ := bs2 hf
  refine am_endi hS (am_runV (As := [.int 16]) X (hml.trans hl.1.symm) hS (cX9_draw_ok (l := l) (E := E) h1) mv_X9_52 hrc rfl ⟨Nat.le_trans (by decide) hRa, Nat.le_trans (by decide) hRb⟩ ⟨Nat.zero_le _, Nat.zero_le _⟩ rfl rfl (Nat.le_of_ble_eq_true rfl) dX9_loseByChance_3) (fun H locs hS => ?_)
  refine lv_iload_n hx hb dX9_loseByChance_6 rfl (lv_at hl 1 rfl) ?_
  refine lv_icmp_ge (tgt := 44) hx hb dX9_loseByChance_7 (by decide) (fun q3 => ?_) (fun q3 => ?_)
  · have hf := ifp hf q3
    exact hj44 m2 H locs ls hf hS (lv_sub hl [] rfl)
  · have hf := ifn hf q3
    refine lv_aload_n hx hb dX9_loseByChance_10 rfl (lv_at hl 0 rfl) ?_
    refine lv_aload_n hx hb dX9_loseByChance_11 rfl (lv_at hl 0 rfl) ?_
    obtain ⟨a4, h1, hf⟩ := bs hf
    refine am_gr X hS fl_X9_9 rfl h1 dX9_loseByChance_12 ?_
    obtain ⟨v5, h1, hf⟩ := bs hf
    refine am_gi X hS fl_X9_34 rfl h1 dX9_loseByChance_15 ?_
    obtain ⟨u0, h0, hf⟩ := bs hf
    obtain ⟨_, hrc⟩ := isO_n h0
    obtain ⟨v6, m7, h1, hf⟩ := bs2 hf
    refine am_endi hS (am_runV (As := [.int v5]) X (hml.trans hl.1.symm) hS (cX9_draw_ok (l := l) (E := E) h1) mv_X9_52 hrc rfl ⟨Nat.le_trans (by decide) hRa, Nat.le_trans (by decide) hRb⟩ ⟨Nat.zero_le _, Nat.zero_le _⟩ rfl rfl (Nat.le_of_ble_eq_true rfl) dX9_loseByChance_18) (fun H locs hS => ?_)
    refine lv_topi (fun x2_8 e1 => ?_)
    have hf := lt1_n e1 hf
    refine lv_istore_n (lv' := [(2, .int x2_8), (0, .ref x0), (1, .int x1)]) hx hb dX9_loseByChance_21 rfl hl (by decide) rfl (fun ls hl => ?_)
    refine lv_aload_n hx hb dX9_loseByChance_22 rfl (lv_at hl 1 rfl) ?_
    refine lv_bipush (v := 7) hx hb dX9_loseByChance_23 (by decide) ?_
    obtain ⟨u0, h0, hf⟩ := bs hf
    obtain ⟨_, hrc⟩ := isO_n h0
    obtain ⟨v9, m10, h1, hf⟩ := bs2 hf
    refine am_endi hS (am_runV (As := [.int 7]) X (hml.trans hl.1.symm) hS (cX9_draw_ok (l := l) (E := E) h1) mv_X9_52 hrc rfl ⟨Nat.le_trans (by decide) hRa, Nat.le_trans (by decide) hRb⟩ ⟨Nat.zero_le _, Nat.zero_le _⟩ rfl rfl (Nat.le_of_ble_eq_true rfl) dX9_loseByChance_25) (fun H locs hS => ?_)
    refine lv_topi (fun x3_11 e1 => ?_)
    have hf := lt1_n e1 hf
    refine lv_istore_n (lv' := [(3, .int x3_11), (2, .int x2_8), (0, .ref x0), (1, .int x1)]) hx hb dX9_loseByChance_28 rfl hl (by decide) rfl (fun ls hl => ?_)
    refine lv_aload_n hx hb dX9_loseByChance_29 rfl (lv_at hl 2 rfl) ?_
    obtain ⟨a12, h1, hf⟩ := bs hf
    refine am_gr X hS fl_X9_22 rfl h1 dX9_loseByChance_30 ?_
    refine lv_iload_n hx hb dX9_loseByChance_33 rfl (lv_at hl 1 rfl) ?_
    refine lv_bipush (v := 7) hx hb dX9_loseByChance_34 (by decide) ?_
    refine lv_imul hx hb dX9_loseByChance_36 ?_
    refine lv_iload_n hx hb dX9_loseByChance_37 rfl (lv_at hl 0 rfl) ?_
    refine lv_iadd hx hb dX9_loseByChance_38 ?_
    refine lv_iconst (v := 1) hx hb dX9_loseByChance_39 (by decide) ?_
    obtain ⟨u0, h0, hf⟩ := bs hf
    obtain ⟨_, hrc⟩ := isO_n h0
    obtain ⟨v13, m14, h1, hf⟩ := bs2 hf
    refine am_endi hS (am_runV (As := [.int ((x2_8 * 7) + x3_11), .int 1]) X (hml.trans hl.1.symm) hS (cX2_takeOut_ok (l := l) (E := E) h1) mv_X9_65 hrc rfl ⟨Nat.le_trans (by decide) hRa, Nat.le_trans (by decide) hRb⟩ ⟨Nat.zero_le _, Nat.zero_le _⟩ rfl rfl (Nat.le_of_ble_eq_true rfl) dX9_loseByChance_40) (fun H locs hS => ?_)
    refine lv_pop hx hb dX9_loseByChance_43 rfl ?_
    exact hj44 m14 H locs ls hf hS (lv_sub hl [] rfl)
set_option maxRecDepth 100000 in
theorem cX9_loseByChance_ok {l : Launch} {E : Ev} {x0 : Nat} {x1 : Int32} {mm : Mem} {mm1 : Mem} (hf : fX9_loseByChance (eS E) x0 x1 mm = some mm1) : CtV l yX9_loseByChance cX9_loseByChance 4 none (1) (22) E [.ref x0, .int x1] mm mm1 := by
  refine Met.ofW (cc := cX9_loseByChance) (maxL := 4) (ret := none) (by decide) rfl ?_
  intro p e s m args below meth c s₁ B hml hv
  obtain ⟨rfl, X, hS, hr, hlocks⟩ := am_in B hv
  refine am_entry (Nat.le_of_ble_eq_true rfl) (fun ls hl => ?_)
  exact wX9_loseByChance X hml ⟨Nat.le_refl _, Nat.le_refl _⟩ hf (fun pc H locs ls hd hS => am_rv X hS hr hd hlocks) _ _ ls hS hl
set_option maxHeartbeats 4000000 in
set_option maxRecDepth 100000 in
theorem wX9_run {p : Program} {l : Launch} {e : Env} {R : Room} {s : State} {m : MethodId} {args : Array Value} {below : List Frame} {meth : Method} {c : Code} {Q : State → Prop} {E : Ev} (X : Cx p s m args c cX9_run RX9 E) (hml : c.maxLocals = 6) (hR : 6 ≤ R.frames ∧ 146 ≤ R.locals) {x0 : Nat} {x1 : Nat} {x2 : Int32} {x3 : Int32} {x4 : Int32} {mm : Mem} {mm1 : Mem} (hf : fX9_run (eS E) x0 x1 x2 x3 x4 mm = some mm1) (hret : ∀ (pc : Nat) (H : Heap) (locs : List Loc) (ls : Array Slot), decode cX9_run pc = .ok (.return_, 1) → wS E s mm1 H locs → W p l e R s m args below meth c H locs 0 0 Q (F0 m pc ls [])) : ∀ (H : Heap) (locs : List Loc) (ls : Array Slot), wS E s mm H locs → lv_has ls 6 [(0, .ref x0), (1, .ref x1), (2, .int x2), (3, .int x3), (4, .int x4)] → W p l e R s m args below meth c H locs 0 0 Q (F0 m 0 ls []) := by
  have hx := X.1
  have hb := X.2.1
  have hR1 := hR.1
  have hR2 := hR.2
  have hRa : 6 ≤ R.frames := by omega
  have hRb : 146 ≤ R.locals := by omega
  unfold fX9_run at hf
  have hj65 : ∀ (mm : Mem) (H : Heap) (locs : List Loc) (ls : Array Slot), fX9_run_j65 (eS E) mm = some mm1 → wS E s mm H locs → lv_has ls 6 [] → W p l e R s m args below meth c H locs 0 0 Q (F0 m 65 ls []) := by
    intro mm H locs ls hf hS hl
    unfold fX9_run_j65 at hf
    cases hf
    exact hret _ _ _ _ dX9_run_65 hS
  intro H locs ls hS hl
  refine lv_aload_n hx hb dX9_run_0 rfl (lv_at hl 0 rfl) ?_
  obtain ⟨a1, h1, hf⟩ := bs hf
  refine am_gr X hS fl_X9_22 rfl h1 dX9_run_1 ?_
  refine lv_aload_n hx hb dX9_run_4 rfl (lv_at hl 1 rfl) ?_
  obtain ⟨u0, h0, hf⟩ := bs hf
  obtain ⟨_, hrc⟩ := isO_n h0
  obtain ⟨m2, h1, hf⟩ := bs hf
  refine am_endv hS (am_runV (As := [.ref x1]) X (hml.trans hl.1.symm) hS (cX2_copyFrom_ok (l := l) (E := E) h1) mv_X9_26 hrc rfl ⟨Nat.le_trans (by decide) hRa, Nat.le_trans (by decide) hRb⟩ ⟨Nat.zero_le _, Nat.zero_le _⟩ rfl rfl (Nat.le_of_ble_eq_true rfl) dX9_run_5) (fun H locs hS => ?_)
  refine lv_aload_n hx hb dX9_run_8 rfl (lv_at hl 0 rfl) ?_
  refine lv_iload_n hx hb dX9_run_9 rfl (lv_at hl 2 rfl) ?_
  obtain ⟨m3, h1, hf⟩ := bs hf
  refine am_pi X hS fp_X9_30 rfl h1 dX9_run_10 (fun H locs hS => ?_)
  refine lv_iconst (v := 0) hx hb dX9_run_13 (by decide) ?_
  refine lv_topi (fun x5_4 e1 => ?_)
  have hf := lt1_n e1 hf
  refine lv_istore (lv' := [(5, .int x5_4), (0, .ref x0), (1, .ref x1), (2, .int x2), (3, .int x3), (4, .int x4)]) hx hb dX9_run_14 hl (by decide) rfl (fun ls hl => ?_)
  obtain ⟨ex16, hl16, hk16⟩ := bs hf
  refine loop_W (P := fun st => ∀ (H : Heap) (locs : List Loc) (ls : Array Slot), wS E s st.2 H locs → lv_has ls 6 [(0, .ref x0), (3, .int x3), (4, .int x4), (5, .int st.1)] → W p l e R s m args below meth c H locs 0 0 Q (F0 m 16 ls [])) (ex := ex16) ?_ FU _ hl16 H locs ls hS (lv_sub hl [1, 4, 5, 0] rfl)
  intro st y16 hf hyL16 hyR16 H locs ls hS hl
  obtain ⟨x5, mm⟩ := st
  have hf : fX9_run_b16 (eS E) x0 x3 x4 x5 mm = some y16 := hf
  have hS : wS E s mm H locs := hS
  have hl : lv_has ls 6 [(0, .ref x0), (3, .int x3), (4, .int x4), (5, .int x5)] := hl
  unfold fX9_run_b16 at hf
  have hj52 : ∀ (x5 : Int32) (mm : Mem) (H : Heap) (locs : List Loc) (ls : Array Slot), fX9_run_j52 (eS E) x0 x3 x4 x5 mm = some y16 → wS E s mm H locs → lv_has ls 6 [(0, .ref x0), (3, .int x3), (4, .int x4), (5, .int x5)] → W p l e R s m args below meth c H locs 0 0 Q (F0 m 52 ls []) := by
    intro x5 mm H locs ls hf hS hl
    unfold fX9_run_j52 at hf
    refine lv_aload_n hx hb dX9_run_52 rfl (lv_at hl 0 rfl) ?_
    obtain ⟨a5, h1, hf⟩ := bs hf
    refine am_gr X hS fl_X9_22 rfl h1 dX9_run_53 ?_
    obtain ⟨u0, h0, hf⟩ := bs hf
    obtain ⟨_, hrc⟩ := isO_n h0
    obtain ⟨m6, h1, hf⟩ := bs hf
    refine am_endv hS (am_runV (As := []) X (hml.trans hl.1.symm) hS (cX2_passDay_ok (l := l) (E := E) h1) mv_X9_49 hrc rfl ⟨Nat.le_trans (by decide) hRa, Nat.le_trans (by decide) hRb⟩ ⟨Nat.zero_le _, Nat.zero_le _⟩ rfl rfl (Nat.le_of_ble_eq_true rfl) dX9_run_56) (fun H locs hS => ?_)
    obtain ⟨x5_7, e1⟩ : ∃ z : Int32, z = x5 + 1 := ⟨_, rfl⟩
    have hf := lt1_n e1 hf
    refine lv_iinc (v := x5_7) (lv' := [(5, .int x5_7), (0, .ref x0), (3, .int x3), (4, .int x4)]) hx hb dX9_run_59 hl (k := 3) rfl (by rw [e1]; rfl) (by decide) rfl (fun ls hl => ?_)
    refine lv_goto (tgt := 16) hx hb dX9_run_62 (by decide) ?_
    exact hyL16 _ (Option.some.inj hf).symm H locs ls hS (lv_sub hl [1, 2, 3, 0] rfl)
  refine lv_iload hx hb dX9_run_16 (lv_at hl 3 rfl) ?_
  refine lv_iload hx hb dX9_run_18 (lv_at hl 2 rfl) ?_
  refine lv_icmp_ge (tgt := 65) hx hb dX9_run_20 (by decide) (fun q8 => ?_) (fun q8 => ?_)
  · have hf := ifp hf q8
    obtain rfl : mm = ex16 := hyR16 _ (Option.some.inj hf).symm
    exact hj65 mm H locs ls hk16 hS (lv_sub hl [] rfl)
  · have hf := ifn hf q8
    refine lv_aload_n hx hb dX9_run_23 rfl (lv_at hl 0 rfl) ?_
    obtain ⟨a9, h1, hf⟩ := bs hf
    refine am_gr X hS fl_X9_9 rfl h1 dX9_run_24 ?_
    obtain ⟨v10, h1, hf⟩ := bs hf
    refine am_gi X hS fl_X9_34 rfl h1 dX9_run_27 ?_
    refine lv_if_le (tgt := 52) hx hb dX9_run_30 (by decide) (fun q11 => ?_) (fun q11 => ?_)
    · have hf := ifp hf q11
      exact hj52 x5 mm H locs ls hf hS hl
    · have hf := ifn hf q11
      refine lv_aload_n hx hb dX9_run_33 rfl (lv_at hl 0 rfl) ?_
      obtain ⟨a12, h1, hf⟩ := bs hf
      refine am_gr X hS fl_X9_9 rfl h1 dX9_run_34 ?_
      obtain ⟨v13, h1, hf⟩ := bs hf
      refine am_gi X hS fl_X9_39 rfl h1 dX9_run_37 ?_
      refine lv_if_le (tgt := 52) hx hb dX9_run_40 (by decide) (fun q14 => ?_) (fun q14 => ?_)
      · have hf := ifp hf q14
        exact hj52 x5 mm H locs ls hf hS hl
      · have hf := ifn hf q14
        refine lv_aload_n hx hb dX9_run_43 rfl (lv_at hl 0 rfl) ?_
        obtain ⟨u0, h0, hf⟩ := bs hf
        obtain ⟨_, hrc⟩ := isO_n h0
        obtain ⟨m15, h1, hf⟩ := bs hf
        refine am_endv hS (am_runV (As := []) X (hml.trans hl.1.symm) hS (cX9_passThroughGlass_ok (l := l) (E := E) h1) mv_X9_42 hrc rfl ⟨Nat.le_trans (by decide) hRa, Nat.le_trans (by decide) hRb⟩ ⟨Nat.zero_le _, Nat.zero_le _⟩ rfl rfl (Nat.le_of_ble_eq_true rfl) dX9_run_44) (fun H locs hS => ?_)
        refine lv_aload_n hx hb dX9_run_47 rfl (lv_at hl 0 rfl) ?_
        refine lv_iload_n hx hb dX9_run_48 rfl (lv_at hl 1 rfl) ?_
        obtain ⟨u0, h0, hf⟩ := bs hf
        obtain ⟨_, hrc⟩ := isO_n h0
        obtain ⟨m16, h1, hf⟩ := bs hf
        refine am_endv hS (am_runV (As := [.int x3]) X (hml.trans hl.1.symm) hS (cX9_loseByChance_ok (l := l) (E := E) h1) mv_X9_45 hrc rfl ⟨Nat.le_trans (by decide) hRa, Nat.le_trans (by decide) hRb⟩ ⟨Nat.zero_le _, Nat.zero_le _⟩ rfl rfl (Nat.le_of_ble_eq_true rfl) dX9_run_49) (fun H locs hS => ?_)
        exact hj52 x5 m16 H locs ls hf hS hl
set_option maxRecDepth 100000 in
theorem cX9_run_ok {l : Launch} {E : Ev} {x0 : Nat} {x1 : Nat} {x2 : Int32} {x3 : Int32} {x4 : Int32} {mm : Mem} {mm1 : Mem} (hf : fX9_run (eS E) x0 x1 x2 x3 x4 mm = some mm1) : CtV l yX9_run cX9_run 6 none (6) (146) E [.ref x0, .ref x1, .int x2, .int x3, .int x4] mm mm1 := by
  refine Met.ofW (cc := cX9_run) (maxL := 6) (ret := none) (by decide) rfl ?_
  intro p e s m args below meth c s₁ B hml hv
  obtain ⟨rfl, X, hS, hr, hlocks⟩ := am_in B hv
  refine am_entry (Nat.le_of_ble_eq_true rfl) (fun ls hl => ?_)
  exact wX9_run X hml ⟨Nat.le_refl _, Nat.le_refl _⟩ hf (fun pc H locs ls hd hS => am_rv X hS hr hd hlocks) _ _ ls hS hl
set_option maxHeartbeats 4000000 in
set_option maxRecDepth 100000 in
theorem wX10_readNumbers {p : Program} {l : Launch} {e : Env} {R : Room} {s : State} {m : MethodId} {args : Array Value} {below : List Frame} {meth : Method} {c : Code} {Q : State → Prop} {E : Ev} (X : Cx p s m args c cX10_readNumbers RX10 E) (hml : c.maxLocals = 3) (hR : 2 ≤ R.frames ∧ 47 ≤ R.locals) {x0 : Nat} {x1 : Int32} {x2 : Int32} {mm : Mem} {mm1 : Mem} (hf : fX10_readNumbers (eS E) x0 x1 x2 mm = some mm1) (hret : ∀ (pc : Nat) (H : Heap) (locs : List Loc) (ls : Array Slot), decode cX10_readNumbers pc = .ok (.return_, 1) → wS E s mm1 H locs → W p l e R s m args below meth c H locs 0 0 Q (F0 m pc ls [])) : ∀ (H : Heap) (locs : List Loc) (ls : Array Slot), wS E s mm H locs → lv_has ls 3 [(0, .ref x0), (1, .int x1), (2, .int x2)] → W p l e R s m args below meth c H locs 0 0 Q (F0 m 0 ls []) := by
  have hx := X.1
  have hb := X.2.1
  have hR1 := hR.1
  have hR2 := hR.2
  have hRa : 2 ≤ R.frames := by omega
  have hRb : 47 ≤ R.locals := by omega
  unfold fX10_readNumbers at hf
  have hj32 : ∀ (x0 : Nat) (x1 : Int32) (mm : Mem) (H : Heap) (locs : List Loc) (ls : Array Slot), fX10_readNumbers_j32 (eS E) x0 x1 mm = some mm1 → wS E s mm H locs → lv_has ls 3 [(0, .ref x0), (1, .int x1)] → W p l e R s m args below meth c H locs 0 0 Q (F0 m 32 ls []) := by
    intro x0 x1 mm H locs ls hf hS hl
    unfold fX10_readNumbers_j32 at hf
    refine lv_aload_n hx hb dX10_readNumbers_32 rfl (lv_at hl 0 rfl) ?_
    obtain ⟨a1, h1, hf⟩ := bs hf
    refine am_gr X hS fl_X10_30 rfl h1 dX10_readNumbers_33 ?_
    refine lv_iload_n hx hb dX10_readNumbers_36 rfl (lv_at hl 1 rfl) ?_
    refine lv_aload_n hx hb dX10_readNumbers_37 rfl (lv_at hl 0 rfl) ?_
    obtain ⟨a2, h1, hf⟩ := bs hf
    refine am_gr X hS fl_X10_9 rfl h1 dX10_readNumbers_38 ?_
    refine lv_iconst (v := 0) hx hb dX10_readNumbers_41 (by decide) ?_
    refine lv_aload_n hx hb dX10_readNumbers_42 rfl (lv_at hl 0 rfl) ?_
    obtain ⟨a3, h1, hf⟩ := bs hf
    refine am_gr X hS fl_X10_15 rfl h1 dX10_readNumbers_43 ?_
    obtain ⟨v4, h1, hf⟩ := bs hf
    refine am_gi X hS fl_X10_102 rfl h1 dX10_readNumbers_46 ?_
    refine lv_iconst (v := 1) hx hb dX10_readNumbers_49 (by decide) ?_
    refine lv_isub hx hb dX10_readNumbers_50 ?_
    obtain ⟨u0, h0, hf⟩ := bs hf
    obtain ⟨_, hrc⟩ := isO_n h0
    obtain ⟨v5, m6, h1, hf⟩ := bs2 hf
    refine am_endi hS (am_runV (As := [.int 0, .int (v4 - 1)]) X (hml.trans hl.1.symm) hS (cX8_number_ok (l := l) (E := E) h1) mv_X10_86 hrc rfl ⟨Nat.le_trans (by decide) hRa, Nat.le_trans (by decide) hRb⟩ ⟨Nat.zero_le _, Nat.zero_le _⟩ rfl rfl (Nat.le_of_ble_eq_true rfl) dX10_readNumbers_51) (fun H locs hS => ?_)
    obtain ⟨m7, h1, hf⟩ := bs hf
    refine am_ast X hS h1 dX10_readNumbers_54 (fun H locs hS => ?_)
    cases hf
    exact hret _ _ _ _ dX10_readNumbers_55 hS
  intro H locs ls hS hl
  refine lv_aload_n hx hb dX10_readNumbers_0 rfl (lv_at hl 0 rfl) ?_
  obtain ⟨a8, h1, hf⟩ := bs hf
  refine am_gr X hS fl_X10_27 rfl h1 dX10_readNumbers_1 ?_
  refine lv_iload_n hx hb dX10_readNumbers_4 rfl (lv_at hl 1 rfl) ?_
  refine lv_aload_n hx hb dX10_readNumbers_5 rfl (lv_at hl 0 rfl) ?_
  obtain ⟨a9, h1, hf⟩ := bs hf
  refine am_gr X hS fl_X10_9 rfl h1 dX10_readNumbers_6 ?_
  refine lv_iconst (v := 0) hx hb dX10_readNumbers_9 (by decide) ?_
  refine lv_aload_n hx hb dX10_readNumbers_10 rfl (lv_at hl 0 rfl) ?_
  obtain ⟨a10, h1, hf⟩ := bs hf
  refine am_gr X hS fl_X10_15 rfl h1 dX10_readNumbers_11 ?_
  obtain ⟨v11, h1, hf⟩ := bs hf
  refine am_gi X hS fl_X10_97 rfl h1 dX10_readNumbers_14 ?_
  refine lv_iconst (v := 1) hx hb dX10_readNumbers_17 (by decide) ?_
  refine lv_isub hx hb dX10_readNumbers_18 ?_
  obtain ⟨u0, h0, hf⟩ := bs hf
  obtain ⟨_, hrc⟩ := isO_n h0
  obtain ⟨v12, m13, h1, hf⟩ := bs2 hf
  refine am_endi hS (am_runV (As := [.int 0, .int (v11 - 1)]) X (hml.trans hl.1.symm) hS (cX8_number_ok (l := l) (E := E) h1) mv_X10_86 hrc rfl ⟨Nat.le_trans (by decide) hRa, Nat.le_trans (by decide) hRb⟩ ⟨Nat.zero_le _, Nat.zero_le _⟩ rfl rfl (Nat.le_of_ble_eq_true rfl) dX10_readNumbers_19) (fun H locs hS => ?_)
  obtain ⟨m14, h1, hf⟩ := bs hf
  refine am_ast X hS h1 dX10_readNumbers_22 (fun H locs hS => ?_)
  refine lv_iload_n hx hb dX10_readNumbers_23 rfl (lv_at hl 2 rfl) ?_
  refine lv_if_eq (tgt := 32) hx hb dX10_readNumbers_24 (by decide) (fun q15 => ?_) (fun q15 => ?_)
  · have hf := ifp hf q15
    exact hj32 x0 x1 m14 H locs ls hf hS (lv_sub hl [0, 1] rfl)
  · have hf := ifn hf q15
    refine lv_iload_n hx hb dX10_readNumbers_27 rfl (lv_at hl 2 rfl) ?_
    refine lv_iconst (v := 1) hx hb dX10_readNumbers_28 (by decide) ?_
    refine lv_icmp_ne (tgt := 56) hx hb dX10_readNumbers_29 (by decide) (fun q16 => ?_) (fun q16 => ?_)
    · have hf := ifn hf q16
      refine lv_iload_n hx hb dX10_readNumbers_56 rfl (lv_at hl 2 rfl) ?_
      refine lv_iconst (v := 4) hx hb dX10_readNumbers_57 (by decide) ?_
      refine lv_icmp_ne (tgt := 101) hx hb dX10_readNumbers_58 (by decide) (fun q17 => ?_) (fun q17 => ?_)
      · have hf := ifn hf q17
        refine lv_aload_n hx hb dX10_readNumbers_101 rfl (lv_at hl 0 rfl) ?_
        obtain ⟨a18, h1, hf⟩ := bs hf
        refine am_gr X hS fl_X10_30 rfl h1 dX10_readNumbers_102 ?_
        refine lv_iload_n hx hb dX10_readNumbers_105 rfl (lv_at hl 1 rfl) ?_
        refine lv_aload_n hx hb dX10_readNumbers_106 rfl (lv_at hl 0 rfl) ?_
        obtain ⟨a19, h1, hf⟩ := bs hf
        refine am_gr X hS fl_X10_9 rfl h1 dX10_readNumbers_107 ?_
        refine lv_iconst (v := 0) hx hb dX10_readNumbers_110 (by decide) ?_
        refine lv_bipush (v := 6) hx hb dX10_readNumbers_111 (by decide) ?_
        obtain ⟨u0, h0, hf⟩ := bs hf
        obtain ⟨_, hrc⟩ := isO_n h0
        obtain ⟨v20, m21, h1, hf⟩ := bs2 hf
        refine am_endi hS (am_runV (As := [.int 0, .int 6]) X (hml.trans hl.1.symm) hS (cX8_number_ok (l := l) (E := E) h1) mv_X10_86 hrc rfl ⟨Nat.le_trans (by decide) hRa, Nat.le_trans (by decide) hRb⟩ ⟨Nat.zero_le _, Nat.zero_le _⟩ rfl rfl (Nat.le_of_ble_eq_true rfl) dX10_readNumbers_113) (fun H locs hS => ?_)
        obtain ⟨m22, h1, hf⟩ := bs hf
        refine am_ast X hS h1 dX10_readNumbers_116 (fun H locs hS => ?_)
        refine lv_aload_n hx hb dX10_readNumbers_117 rfl (lv_at hl 0 rfl) ?_
        obtain ⟨a23, h1, hf⟩ := bs hf
        refine am_gr X hS fl_X10_33 rfl h1 dX10_readNumbers_118 ?_
        refine lv_iload_n hx hb dX10_readNumbers_121 rfl (lv_at hl 1 rfl) ?_
        refine lv_aload_n hx hb dX10_readNumbers_122 rfl (lv_at hl 0 rfl) ?_
        obtain ⟨a24, h1, hf⟩ := bs hf
        refine am_gr X hS fl_X10_9 rfl h1 dX10_readNumbers_123 ?_
        refine lv_iconst (v := 1) hx hb dX10_readNumbers_126 (by decide) ?_
        refine lv_bipush (v := 40) hx hb dX10_readNumbers_127 (by decide) ?_
        obtain ⟨u0, h0, hf⟩ := bs hf
        obtain ⟨_, hrc⟩ := isO_n h0
        obtain ⟨v25, m26, h1, hf⟩ := bs2 hf
        refine am_endi hS (am_runV (As := [.int 1, .int 40]) X (hml.trans hl.1.symm) hS (cX8_number_ok (l := l) (E := E) h1) mv_X10_86 hrc rfl ⟨Nat.le_trans (by decide) hRa, Nat.le_trans (by decide) hRb⟩ ⟨Nat.zero_le _, Nat.zero_le _⟩ rfl rfl (Nat.le_of_ble_eq_true rfl) dX10_readNumbers_129) (fun H locs hS => ?_)
        obtain ⟨m27, h1, hf⟩ := bs hf
        refine am_ast X hS h1 dX10_readNumbers_132 (fun H locs hS => ?_)
        cases hf
        exact hret _ _ _ _ dX10_readNumbers_133 hS
      · have hf := ifp hf q17
        refine lv_aload_n hx hb dX10_readNumbers_61 rfl (lv_at hl 0 rfl) ?_
        obtain ⟨a28, h1, hf⟩ := bs hf
        refine am_gr X hS fl_X10_30 rfl h1 dX10_readNumbers_62 ?_
        refine lv_iload_n hx hb dX10_readNumbers_65 rfl (lv_at hl 1 rfl) ?_
        refine lv_aload_n hx hb dX10_readNumbers_66 rfl (lv_at hl 0 rfl) ?_
        obtain ⟨a29, h1, hf⟩ := bs hf
        refine am_gr X hS fl_X10_9 rfl h1 dX10_readNumbers_67 ?_
        refine lv_iconst (v := 0) hx hb dX10_readNumbers_70 (by decide) ?_
        refine lv_aload_n hx hb dX10_readNumbers_71 rfl (lv_at hl 0 rfl) ?_
        obtain ⟨a30, h1, hf⟩ := bs hf
        refine am_gr X hS fl_X10_15 rfl h1 dX10_readNumbers_72 ?_
        obtain ⟨v31, h1, hf⟩ := bs hf
        refine am_gi X hS fl_X10_97 rfl h1 dX10_readNumbers_75 ?_
        refine lv_iconst (v := 1) hx hb dX10_readNumbers_78 (by decide) ?_
        refine lv_isub hx hb dX10_readNumbers_79 ?_
        obtain ⟨u0, h0, hf⟩ := bs hf
        obtain ⟨_, hrc⟩ := isO_n h0
        obtain ⟨v32, m33, h1, hf⟩ := bs2 hf
        refine am_endi hS (am_runV (As := [.int 0, .int (v31 - 1)]) X (hml.trans hl.1.symm) hS (cX8_number_ok (l := l) (E := E) h1) mv_X10_86 hrc rfl ⟨Nat.le_trans (by decide) hRa, Nat.le_trans (by decide) hRb⟩ ⟨Nat.zero_le _, Nat.zero_le _⟩ rfl rfl (Nat.le_of_ble_eq_true rfl) dX10_readNumbers_80) (fun H locs hS => ?_)
        obtain ⟨m34, h1, hf⟩ := bs hf
        refine am_ast X hS h1 dX10_readNumbers_83 (fun H locs hS => ?_)
        refine lv_aload_n hx hb dX10_readNumbers_84 rfl (lv_at hl 0 rfl) ?_
        obtain ⟨a35, h1, hf⟩ := bs hf
        refine am_gr X hS fl_X10_33 rfl h1 dX10_readNumbers_85 ?_
        refine lv_iload_n hx hb dX10_readNumbers_88 rfl (lv_at hl 1 rfl) ?_
        refine lv_aload_n hx hb dX10_readNumbers_89 rfl (lv_at hl 0 rfl) ?_
        obtain ⟨a36, h1, hf⟩ := bs hf
        refine am_gr X hS fl_X10_9 rfl h1 dX10_readNumbers_90 ?_
        refine lv_iconst (v := 0) hx hb dX10_readNumbers_93 (by decide) ?_
        refine lv_bipush (v := 6) hx hb dX10_readNumbers_94 (by decide) ?_
        obtain ⟨u0, h0, hf⟩ := bs hf
        obtain ⟨_, hrc⟩ := isO_n h0
        obtain ⟨v37, m38, h1, hf⟩ := bs2 hf
        refine am_endi hS (am_runV (As := [.int 0, .int 6]) X (hml.trans hl.1.symm) hS (cX8_number_ok (l := l) (E := E) h1) mv_X10_86 hrc rfl ⟨Nat.le_trans (by decide) hRa, Nat.le_trans (by decide) hRb⟩ ⟨Nat.zero_le _, Nat.zero_le _⟩ rfl rfl (Nat.le_of_ble_eq_true rfl) dX10_readNumbers_96) (fun H locs hS => ?_)
        obtain ⟨m39, h1, hf⟩ := bs hf
        refine am_ast X hS h1 dX10_readNumbers_99 (fun H locs hS => ?_)
        cases hf
        exact hret _ _ _ _ dX10_readNumbers_100 hS
    · have hf := ifp hf q16
      exact hj32 x0 x1 m14 H locs ls hf hS (lv_sub hl [0, 1] rfl)
set_option maxRecDepth 100000 in
theorem cX10_readNumbers_ok {l : Launch} {E : Ev} {x0 : Nat} {x1 : Int32} {x2 : Int32} {mm : Mem} {mm1 : Mem} (hf : fX10_readNumbers (eS E) x0 x1 x2 mm = some mm1) : CtV l yX10_readNumbers cX10_readNumbers 3 none (2) (47) E [.ref x0, .int x1, .int x2] mm mm1 := by
  refine Met.ofW (cc := cX10_readNumbers) (maxL := 3) (ret := none) (by decide) rfl ?_
  intro p e s m args below meth c s₁ B hml hv
  obtain ⟨rfl, X, hS, hr, hlocks⟩ := am_in B hv
  refine am_entry (Nat.le_of_ble_eq_true rfl) (fun ls hl => ?_)
  exact wX10_readNumbers X hml ⟨Nat.le_refl _, Nat.le_refl _⟩ hf (fun pc H locs ls hd hS => am_rv X hS hr hd hlocks) _ _ ls hS hl
set_option maxHeartbeats 4000000 in
set_option maxRecDepth 100000 in
theorem wX10_readStep {p : Program} {l : Launch} {e : Env} {R : Room} {s : State} {m : MethodId} {args : Array Value} {below : List Frame} {meth : Method} {c : Code} {Q : State → Prop} {E : Ev} {S : Nat → Int32 → Mem → Option (Int32 × Mem)} {fr0 lo0 : Nat} (hSc : ∀ {z0 : Nat} {z1 : Int32} {m0 : Mem} {rz : Int32} {mz : Mem}, S z0 z1 m0 = some (rz, mz) → CtI l yX10_readSteps cX10_readSteps 3 (some .boolean) fr0 lo0 E [.ref z0, .int z1] m0 rz mz) (X : Cx p s m args c cX10_readStep RX10 E) (hml : c.maxLocals = 6) (hR : fr0 + 6 ≤ R.frames ∧ lo0 + 134 ≤ R.locals) {x0 : Nat} {x1 : Int32} {mm : Mem} {r : Int32} {mm1 : Mem} (hf : fX10_readStep_o (eS E) S x0 x1 mm = some (r, mm1)) (hret : ∀ (pc : Nat) (H : Heap) (locs : List Loc) (ls : Array Slot), narrow .boolean (.int r) = .int r → decode cX10_readStep pc = .ok (.ireturn, 1) → wS E s mm1 H locs → W p l e R s m args below meth c H locs 0 0 Q (F0 m pc ls [.int r])) : ∀ (H : Heap) (locs : List Loc) (ls : Array Slot), wS E s mm H locs → lv_has ls 6 [(0, .ref x0), (1, .int x1)] → W p l e R s m args below meth c H locs 0 0 Q (F0 m 0 ls []) := by
  have hx := X.1
  have hb := X.2.1
  have hR1 := hR.1
  have hR2 := hR.2
  have hRa : 6 ≤ R.frames := by omega
  have hRb : 134 ≤ R.locals := by omega
  unfold fX10_readStep_o at hf
  have hj49 : ∀ (x0 : Nat) (x2 : Int32) (mm : Mem) (H : Heap) (locs : List Loc) (ls : Array Slot), fX10_readStep_j49 (eS E) S x0 x2 mm = some (r, mm1) → wS E s mm H locs → lv_has ls 6 [(0, .ref x0), (2, .int x2)] → W p l e R s m args below meth c H locs 0 0 Q (F0 m 49 ls []) := by
    intro x0 x2 mm H locs ls hf hS hl
    unfold fX10_readStep_j49 at hf
    refine lv_aload_n hx hb dX10_readStep_49 rfl (lv_at hl 0 rfl) ?_
    obtain ⟨a1, h1, hf⟩ := bs hf
    refine am_gr X hS fl_X10_9 rfl h1 dX10_readStep_50 ?_
    refine lv_iconst (v := 3) hx hb dX10_readStep_53 (by decide) ?_
    refine lv_iload_n hx hb dX10_readStep_54 rfl (lv_at hl 1 rfl) ?_
    obtain ⟨u0, h0, hf⟩ := bs hf
    obtain ⟨_, hrc⟩ := isO_n h0
    obtain ⟨v2, m3, h1, hf⟩ := bs2 hf
    refine am_endi hS (am_runV (As := [.int 3, .int x2]) X (hml.trans hl.1.symm) hS (cX8_fail_ok (l := l) (E := E) h1) mv_X10_82 hrc rfl ⟨Nat.le_trans (by decide) hRa, Nat.le_trans (by decide) hRb⟩ ⟨Nat.zero_le _, Nat.zero_le _⟩ rfl rfl (Nat.le_of_ble_eq_true rfl) dX10_readStep_55) (fun H locs hS => ?_)
    obtain ⟨v4, h1, hf⟩ := bs hf
    obtain ⟨rfl, h2⟩ := ckZ_n h1
    cases hf
    exact hret _ _ _ _ h2 dX10_readStep_58 hS
  have hj183 : ∀ (x0 : Nat) (mm : Mem) (H : Heap) (locs : List Loc) (ls : Array Slot), fX10_readStep_j183 (eS E) S x0 mm = some (r, mm1) → wS E s mm H locs → lv_has ls 6 [(0, .ref x0)] → W p l e R s m args below meth c H locs 0 0 Q (F0 m 183 ls []) := by
    intro x0 mm H locs ls hf hS hl
    unfold fX10_readStep_j183 at hf
    refine lv_aload_n hx hb dX10_readStep_183 rfl (lv_at hl 0 rfl) ?_
    obtain ⟨a5, h1, hf⟩ := bs hf
    refine am_gr X hS fl_X10_9 rfl h1 dX10_readStep_184 ?_
    obtain ⟨u0, h0, hf⟩ := bs hf
    obtain ⟨_, hrc⟩ := isO_n h0
    obtain ⟨v6, h1, hf⟩ := bs hf
    refine am_endi hS (am_runV (As := []) X (hml.trans hl.1.symm) hS (cX8_isWhole_ok (l := l) (E := E) h1) mv_X10_90 hrc rfl ⟨Nat.le_trans (by decide) hRa, Nat.le_trans (by decide) hRb⟩ ⟨Nat.zero_le _, Nat.zero_le _⟩ rfl rfl (Nat.le_of_ble_eq_true rfl) dX10_readStep_187) (fun H locs hS => ?_)
    obtain ⟨v7, h1, hf⟩ := bs hf
    obtain ⟨rfl, h2⟩ := ckZ_n h1
    cases hf
    exact hret _ _ _ _ h2 dX10_readStep_190 hS
  have hj155 : ∀ (x0 : Nat) (x4 : Int32) (s0 : Int32) (mm : Mem) (H : Heap) (locs : List Loc) (ls : Array Slot), fX10_readStep_j155 (eS E) S x0 x4 s0 mm = some (r, mm1) → wS E s mm H locs → lv_has ls 6 [(0, .ref x0), (4, .int x4)] → W p l e R s m args below meth c H locs 0 0 Q (F0 m 155 ls [.int s0]) := by
    intro x0 x4 s0 mm H locs ls hf hS hl
    unfold fX10_readStep_j155 at hf
    refine lv_topi (fun x5_8 e1 => ?_)
    have hf := lt1_n e1 hf
    refine lv_istore (lv' := [(5, .int x5_8), (0, .ref x0), (4, .int x4)]) hx hb dX10_readStep_155 hl (by decide) rfl (fun ls hl => ?_)
    refine lv_aload_n hx hb dX10_readStep_157 rfl (lv_at hl 1 rfl) ?_
    obtain ⟨a9, h1, hf⟩ := bs hf
    refine am_gr X hS fl_X10_36 rfl h1 dX10_readStep_158 ?_
    refine lv_iload hx hb dX10_readStep_161 (lv_at hl 2 rfl) ?_
    refine lv_aload_n hx hb dX10_readStep_163 rfl (lv_at hl 1 rfl) ?_
    obtain ⟨v10, h1, hf⟩ := bs hf
    refine am_gi X hS fl_X10_39 rfl h1 dX10_readStep_164 ?_
    obtain ⟨m11, h1, hf⟩ := bs hf
    refine am_ast X hS h1 dX10_readStep_167 (fun H locs hS => ?_)
    refine lv_iload hx hb dX10_readStep_168 (lv_at hl 0 rfl) ?_
    obtain ⟨v12, h1, hf⟩ := bs hf
    obtain ⟨rfl, h2⟩ := ckZ_n h1
    cases hf
    exact hret _ _ _ _ h2 dX10_readStep_170 hS
  have hj154 : ∀ (x0 : Nat) (x4 : Int32) (mm : Mem) (H : Heap) (locs : List Loc) (ls : Array Slot), fX10_readStep_j154 (eS E) S x0 x4 mm = some (r, mm1) → wS E s mm H locs → lv_has ls 6 [(0, .ref x0), (4, .int x4)] → W p l e R s m args below meth c H locs 0 0 Q (F0 m 154 ls []) := by
    intro x0 x4 mm H locs ls hf hS hl
    unfold fX10_readStep_j154 at hf
    refine lv_iconst (v := 0) hx hb dX10_readStep_154 (by decide) ?_
    exact hj155 x0 x4 0 mm H locs ls hf hS hl
  have hj59 : ∀ (x0 : Nat) (x1 : Int32) (x3 : Int32) (mm : Mem) (H : Heap) (locs : List Loc) (ls : Array Slot), fX10_readStep_j59 (eS E) S x0 x1 x3 mm = some (r, mm1) → wS E s mm H locs → lv_has ls 6 [(0, .ref x0), (1, .int x1), (3, .int x3)] → W p l e R s m args below meth c H locs 0 0 Q (F0 m 59 ls []) := by
    intro x0 x1 x3 mm H locs ls hf hS hl
    unfold fX10_readStep_j59 at hf
    refine lv_aload_n hx hb dX10_readStep_59 rfl (lv_at hl 0 rfl) ?_
    obtain ⟨v13, h1, hf⟩ := bs hf
    refine am_gi X hS fl_X10_39 rfl h1 dX10_readStep_60 ?_
    refine lv_topi (fun x4_14 e1 => ?_)
    have hf := lt1_n e1 hf
    refine lv_istore (lv' := [(4, .int x4_14), (0, .ref x0), (1, .int x1), (3, .int x3)]) hx hb dX10_readStep_63 hl (by decide) rfl (fun ls hl => ?_)
    refine lv_aload_n hx hb dX10_readStep_65 rfl (lv_at hl 1 rfl) ?_
    refine lv_dup hx hb dX10_readStep_66 rfl ?_
    obtain ⟨v15, h1, hf⟩ := bs hf
    refine am_gi X hS fl_X10_39 rfl h1 dX10_readStep_67 ?_
    refine lv_iconst (v := 1) hx hb dX10_readStep_70 (by decide) ?_
    refine lv_iadd hx hb dX10_readStep_71 ?_
    obtain ⟨m16, h1, hf⟩ := bs hf
    refine am_pi X hS fp_X10_39 rfl h1 dX10_readStep_72 (fun H locs hS => ?_)
    refine lv_aload_n hx hb dX10_readStep_75 rfl (lv_at hl 1 rfl) ?_
    obtain ⟨a17, h1, hf⟩ := bs hf
    refine am_gr X hS fl_X10_23 rfl h1 dX10_readStep_76 ?_
    refine lv_iload hx hb dX10_readStep_79 (lv_at hl 0 rfl) ?_
    refine lv_iload_n hx hb dX10_readStep_81 rfl (lv_at hl 3 rfl) ?_
    obtain ⟨m18, h1, hf⟩ := bs hf
    refine am_ast X hS h1 dX10_readStep_82 (fun H locs hS => ?_)
    refine lv_iload_n hx hb dX10_readStep_83 rfl (lv_at hl 3 rfl) ?_
    refine lv_bipush (v := 6) hx hb dX10_readStep_84 (by decide) ?_
    refine lv_icmp_ne (tgt := 171) hx hb dX10_readStep_86 (by decide) (fun q19 => ?_) (fun q19 => ?_)
    · have hf := ifn hf q19
      refine lv_iload_n hx hb dX10_readStep_171 rfl (lv_at hl 3 rfl) ?_
      refine lv_iconst (v := 5) hx hb dX10_readStep_172 (by decide) ?_
      refine lv_icmp_eq (tgt := 183) hx hb dX10_readStep_173 (by decide) (fun q20 => ?_) (fun q20 => ?_)
      · have hf := ifp hf q20
        exact hj183 x0 m18 H locs ls hf hS (lv_sub hl [1] rfl)
      · have hf := ifn hf q20
        refine lv_aload_n hx hb dX10_readStep_176 rfl (lv_at hl 1 rfl) ?_
        refine lv_iload hx hb dX10_readStep_177 (lv_at hl 0 rfl) ?_
        refine lv_iload_n hx hb dX10_readStep_179 rfl (lv_at hl 3 rfl) ?_
        obtain ⟨u0, h0, hf⟩ := bs hf
        obtain ⟨_, hrc⟩ := isO_n h0
        obtain ⟨m21, h1, hf⟩ := bs hf
        refine am_endv hS (am_runV (As := [.int x4_14, .int x3]) X (hml.trans hl.1.symm) hS (cX10_readNumbers_ok (l := l) (E := E) h1) mv_X10_93 hrc rfl ⟨Nat.le_trans (by decide) hRa, Nat.le_trans (by decide) hRb⟩ ⟨Nat.zero_le _, Nat.zero_le _⟩ rfl rfl (Nat.le_of_ble_eq_true rfl) dX10_readStep_180) (fun H locs hS => ?_)
        exact hj183 x0 m21 H locs ls hf hS (lv_sub hl [1] rfl)
    · have hf := ifp hf q19
      refine lv_aload_n hx hb dX10_readStep_89 rfl (lv_at hl 1 rfl) ?_
      obtain ⟨a22, h1, hf⟩ := bs hf
      refine am_gr X hS fl_X10_27 rfl h1 dX10_readStep_90 ?_
      refine lv_iload hx hb dX10_readStep_93 (lv_at hl 0 rfl) ?_
      refine lv_aload_n hx hb dX10_readStep_95 rfl (lv_at hl 1 rfl) ?_
      obtain ⟨a23, h1, hf⟩ := bs hf
      refine am_gr X hS fl_X10_9 rfl h1 dX10_readStep_96 ?_
      refine lv_iconst (v := 0) hx hb dX10_readStep_99 (by decide) ?_
      refine lv_bipush (v := 40) hx hb dX10_readStep_100 (by decide) ?_
      obtain ⟨u0, h0, hf⟩ := bs hf
      obtain ⟨_, hrc⟩ := isO_n h0
      obtain ⟨v24, m25, h1, hf⟩ := bs2 hf
      refine am_endi hS (am_runV (As := [.int 0, .int 40]) X (hml.trans hl.1.symm) hS (cX8_number_ok (l := l) (E := E) h1) mv_X10_86 hrc rfl ⟨Nat.le_trans (by decide) hRa, Nat.le_trans (by decide) hRb⟩ ⟨Nat.zero_le _, Nat.zero_le _⟩ rfl rfl (Nat.le_of_ble_eq_true rfl) dX10_readStep_102) (fun H locs hS => ?_)
      obtain ⟨m26, h1, hf⟩ := bs hf
      refine am_ast X hS h1 dX10_readStep_105 (fun H locs hS => ?_)
      refine lv_aload_n hx hb dX10_readStep_106 rfl (lv_at hl 1 rfl) ?_
      obtain ⟨a27, h1, hf⟩ := bs hf
      refine am_gr X hS fl_X10_9 rfl h1 dX10_readStep_107 ?_
      obtain ⟨u0, h0, hf⟩ := bs hf
      obtain ⟨_, hrc⟩ := isO_n h0
      obtain ⟨v28, h1, hf⟩ := bs hf
      refine am_endi hS (am_runV (As := []) X (hml.trans hl.1.symm) hS (cX8_isWhole_ok (l := l) (E := E) h1) mv_X10_90 hrc rfl ⟨Nat.le_trans (by decide) hRa, Nat.le_trans (by decide) hRb⟩ ⟨Nat.zero_le _, Nat.zero_le _⟩ rfl rfl (Nat.le_of_ble_eq_true rfl) dX10_readStep_110) (fun H locs hS => ?_)
      refine lv_if_eq (tgt := 154) hx hb dX10_readStep_113 (by decide) (fun q29 => ?_) (fun q29 => ?_)
      · have hf := ifp hf q29
        exact hj154 x0 x4_14 m26 H locs ls hf hS (lv_sub hl [1, 0] rfl)
      · have hf := ifn hf q29
        refine lv_aload_n hx hb dX10_readStep_116 rfl (lv_at hl 1 rfl) ?_
        obtain ⟨a30, h1, hf⟩ := bs hf
        refine am_gr X hS fl_X10_9 rfl h1 dX10_readStep_117 ?_
        refine lv_bipush (v := 91) hx hb dX10_readStep_120 (by decide) ?_
        obtain ⟨u0, h0, hf⟩ := bs hf
        obtain ⟨_, hrc⟩ := isO_n h0
        obtain ⟨v31, m32, h1, hf⟩ := bs2 hf
        refine am_endi hS (am_runV (As := [.int 91]) X (hml.trans hl.1.symm) hS (cX8_wants_ok (l := l) (E := E) h1) mv_X10_69 hrc rfl ⟨Nat.le_trans (by decide) hRa, Nat.le_trans (by decide) hRb⟩ ⟨Nat.zero_le _, Nat.zero_le _⟩ rfl rfl (Nat.le_of_ble_eq_true rfl) dX10_readStep_122) (fun H locs hS => ?_)
        refine lv_if_eq (tgt := 154) hx hb dX10_readStep_125 (by decide) (fun q33 => ?_) (fun q33 => ?_)
        · have hf := ifp hf q33
          exact hj154 x0 x4_14 m32 H locs ls hf hS (lv_sub hl [1, 0] rfl)
        · have hf := ifn hf q33
          refine lv_aload_n hx hb dX10_readStep_128 rfl (lv_at hl 1 rfl) ?_
          refine lv_iload_n hx hb dX10_readStep_129 rfl (lv_at hl 2 rfl) ?_
          refine lv_iconst (v := 1) hx hb dX10_readStep_130 (by decide) ?_
          refine lv_iadd hx hb dX10_readStep_131 ?_
          obtain ⟨u0, h0, hf⟩ := bs hf
          obtain ⟨_, hrc⟩ := isO_n h0
          obtain ⟨v34, m35, h1, hf⟩ := bs2 hf
          refine am_endi hS (am_runV (As := [.int (x1 + 1)]) X (hml.trans hl.1.symm) hS (hSc h1) mv_X10_52 hrc rfl ⟨by omega, by omega⟩ ⟨Nat.zero_le _, Nat.zero_le _⟩ rfl rfl (Nat.le_of_ble_eq_true rfl) dX10_readStep_132) (fun H locs hS => ?_)
          refine lv_if_eq (tgt := 154) hx hb dX10_readStep_135 (by decide) (fun q36 => ?_) (fun q36 => ?_)
          · have hf := ifp hf q36
            exact hj154 x0 x4_14 m35 H locs ls hf hS (lv_sub hl [1, 0] rfl)
          · have hf := ifn hf q36
            refine lv_aload_n hx hb dX10_readStep_138 rfl (lv_at hl 1 rfl) ?_
            obtain ⟨a37, h1, hf⟩ := bs hf
            refine am_gr X hS fl_X10_9 rfl h1 dX10_readStep_139 ?_
            refine lv_bipush (v := 93) hx hb dX10_readStep_142 (by decide) ?_
            obtain ⟨u0, h0, hf⟩ := bs hf
            obtain ⟨_, hrc⟩ := isO_n h0
            obtain ⟨v38, m39, h1, hf⟩ := bs2 hf
            refine am_endi hS (am_runV (As := [.int 93]) X (hml.trans hl.1.symm) hS (cX8_wants_ok (l := l) (E := E) h1) mv_X10_69 hrc rfl ⟨Nat.le_trans (by decide) hRa, Nat.le_trans (by decide) hRb⟩ ⟨Nat.zero_le _, Nat.zero_le _⟩ rfl rfl (Nat.le_of_ble_eq_true rfl) dX10_readStep_144) (fun H locs hS => ?_)
            refine lv_if_eq (tgt := 154) hx hb dX10_readStep_147 (by decide) (fun q40 => ?_) (fun q40 => ?_)
            · have hf := ifp hf q40
              exact hj154 x0 x4_14 m39 H locs ls hf hS (lv_sub hl [1, 0] rfl)
            · have hf := ifn hf q40
              refine lv_iconst (v := 1) hx hb dX10_readStep_150 (by decide) ?_
              refine lv_goto (tgt := 155) hx hb dX10_readStep_151 (by decide) ?_
              exact hj155 x0 x4_14 1 m39 H locs ls hf hS (lv_sub hl [1, 0] rfl)
  intro H locs ls hS hl
  refine lv_aload_n hx hb dX10_readStep_0 rfl (lv_at hl 0 rfl) ?_
  obtain ⟨a41, h1, hf⟩ := bs hf
  refine am_gr X hS fl_X10_9 rfl h1 dX10_readStep_1 ?_
  obtain ⟨u0, h0, hf⟩ := bs hf
  obtain ⟨_, hrc⟩ := isO_n h0
  obtain ⟨v42, m43, h1, hf⟩ := bs2 hf
  refine am_endi hS (am_runV (As := []) X (hml.trans hl.1.symm) hS (cX8_next_ok (l := l) (E := E) h1) mv_X10_72 hrc rfl ⟨Nat.le_trans (by decide) hRa, Nat.le_trans (by decide) hRb⟩ ⟨Nat.zero_le _, Nat.zero_le _⟩ rfl rfl (Nat.le_of_ble_eq_true rfl) dX10_readStep_4) (fun H locs hS => ?_)
  refine lv_topi (fun x2_44 e1 => ?_)
  have hf := lt1_n e1 hf
  refine lv_istore_n (lv' := [(2, .int x2_44), (0, .ref x0), (1, .int x1)]) hx hb dX10_readStep_7 rfl hl (by decide) rfl (fun ls hl => ?_)
  refine lv_aload_n hx hb dX10_readStep_8 rfl (lv_at hl 1 rfl) ?_
  obtain ⟨a45, h1, hf⟩ := bs hf
  refine am_gr X hS fl_X10_9 rfl h1 dX10_readStep_9 ?_
  refine am_ldcS (i := 3) X (by decide) rfl rfl dX10_readStep_12 ?_
  obtain ⟨u0, h0, hf⟩ := bs hf
  obtain ⟨_, hrc⟩ := isO_n h0
  obtain ⟨v46, m47, h1, hf⟩ := bs2 hf
  refine am_endi hS (am_runV (As := [.ref (eK E 3)]) X (hml.trans hl.1.symm) hS (cX8_word_ok (l := l) (E := E) h1) mv_X10_78 hrc rfl ⟨Nat.le_trans (by decide) hRa, Nat.le_trans (by decide) hRb⟩ ⟨Nat.zero_le _, Nat.zero_le _⟩ rfl rfl (Nat.le_of_ble_eq_true rfl) dX10_readStep_14) (fun H locs hS => ?_)
  refine lv_topi (fun x3_48 e1 => ?_)
  have hf := lt1_n e1 hf
  refine lv_istore_n (lv' := [(3, .int x3_48), (2, .int x2_44), (0, .ref x0), (1, .int x1)]) hx hb dX10_readStep_17 rfl hl (by decide) rfl (fun ls hl => ?_)
  refine lv_iload_n hx hb dX10_readStep_18 rfl (lv_at hl 0 rfl) ?_
  refine lv_iconst (v := (-1)) hx hb dX10_readStep_19 (by decide) ?_
  refine lv_icmp_ne (tgt := 25) hx hb dX10_readStep_20 (by decide) (fun q49 => ?_) (fun q49 => ?_)
  · have hf := ifn hf q49
    refine lv_aload_n hx hb dX10_readStep_25 rfl (lv_at hl 2 rfl) ?_
    obtain ⟨v50, h1, hf⟩ := bs hf
    refine am_gi X hS fl_X10_39 rfl h1 dX10_readStep_26 ?_
    refine lv_aload_n hx hb dX10_readStep_29 rfl (lv_at hl 2 rfl) ?_
    obtain ⟨a51, h1, hf⟩ := bs hf
    refine am_gr X hS fl_X10_23 rfl h1 dX10_readStep_30 ?_
    obtain ⟨v52, h1, hf⟩ := bs hf
    refine am_len X hS h1 dX10_readStep_33 ?_
    refine lv_icmp_ge (tgt := 49) hx hb dX10_readStep_34 (by decide) (fun q53 => ?_) (fun q53 => ?_)
    · have hf := ifp hf q53
      exact hj49 x0 x2_44 m47 H locs ls hf hS (lv_sub hl [2, 1] rfl)
    · have hf := ifn hf q53
      refine lv_iload_n hx hb dX10_readStep_37 rfl (lv_at hl 0 rfl) ?_
      refine lv_bipush (v := 6) hx hb dX10_readStep_38 (by decide) ?_
      refine lv_icmp_ne (tgt := 59) hx hb dX10_readStep_40 (by decide) (fun q54 => ?_) (fun q54 => ?_)
      · have hf := ifn hf q54
        exact hj59 x0 x1 x3_48 m47 H locs ls hf hS (lv_sub hl [2, 3, 0] rfl)
      · have hf := ifp hf q54
        refine lv_iload_n hx hb dX10_readStep_43 rfl (lv_at hl 3 rfl) ?_
        refine lv_bipush (v := 6) hx hb dX10_readStep_44 (by decide) ?_
        refine lv_icmp_lt (tgt := 59) hx hb dX10_readStep_46 (by decide) (fun q55 => ?_) (fun q55 => ?_)
        · have hf := ifp hf q55
          exact hj59 x0 x1 x3_48 m47 H locs ls hf hS (lv_sub hl [2, 3, 0] rfl)
        · have hf := ifn hf q55
          exact hj49 x0 x2_44 m47 H locs ls hf hS (lv_sub hl [2, 1] rfl)
  · have hf := ifp hf q49
    refine lv_iconst (v := 0) hx hb dX10_readStep_23 (by decide) ?_
    cases hf
    exact hret _ _ _ _ rfl dX10_readStep_24 hS
set_option maxRecDepth 100000 in
theorem cX10_readStep_o_ok {l : Launch} {E : Ev} {S : Nat → Int32 → Mem → Option (Int32 × Mem)} {fr0 lo0 : Nat} (hSc : ∀ {z0 : Nat} {z1 : Int32} {m0 : Mem} {rz : Int32} {mz : Mem}, S z0 z1 m0 = some (rz, mz) → CtI l yX10_readSteps cX10_readSteps 3 (some .boolean) fr0 lo0 E [.ref z0, .int z1] m0 rz mz) {x0 : Nat} {x1 : Int32} {mm : Mem} {r : Int32} {mm1 : Mem} (hf : fX10_readStep_o (eS E) S x0 x1 mm = some (r, mm1)) : CtI l yX10_readStep cX10_readStep 6 (some .boolean) (fr0 + 6) (lo0 + 134) E [.ref x0, .int x1] mm r mm1 := by
  refine Met.ofW (cc := cX10_readStep) (maxL := 6) (ret := (some .boolean)) (by decide) rfl ?_
  intro p e s m args below meth c s₁ B hml hv
  obtain ⟨rfl, X, hS, hr, hlocks⟩ := am_in B hv
  refine am_entry (Nat.le_of_ble_eq_true rfl) (fun ls hl => ?_)
  exact wX10_readStep hSc X hml ⟨Nat.le_refl _, Nat.le_refl _⟩ hf (fun pc H locs ls hn hd hS => am_ri X hS hr hn hd hlocks) _ _ ls hS hl
set_option maxHeartbeats 4000000 in
set_option maxRecDepth 100000 in
theorem wX10_readSteps {p : Program} {l : Launch} {e : Env} {R : Room} {s : State} {m : MethodId} {args : Array Value} {below : List Frame} {meth : Method} {c : Code} {Q : State → Prop} {E : Ev} {S : Nat → Int32 → Mem → Option (Int32 × Mem)} {fr0 lo0 : Nat} (hSc : ∀ {z0 : Nat} {z1 : Int32} {m0 : Mem} {rz : Int32} {mz : Mem}, S z0 z1 m0 = some (rz, mz) → CtI l yX10_readSteps cX10_readSteps 3 (some .boolean) fr0 lo0 E [.ref z0, .int z1] m0 rz mz) (X : Cx p s m args c cX10_readSteps RX10 E) (hml : c.maxLocals = 3) (hR : fr0 + 7 ≤ R.frames ∧ lo0 + 159 ≤ R.locals) {x0 : Nat} {x1 : Int32} {mm : Mem} {r : Int32} {mm1 : Mem} (hf : fX10_readSteps_o (eS E) S x0 x1 mm = some (r, mm1)) (hret : ∀ (pc : Nat) (H : Heap) (locs : List Loc) (ls : Array Slot), narrow .boolean (.int r) = .int r → decode cX10_readSteps pc = .ok (.ireturn, 1) → wS E s mm1 H locs → W p l e R s m args below meth c H locs 0 0 Q (F0 m pc ls [.int r])) : ∀ (H : Heap) (locs : List Loc) (ls : Array Slot), wS E s mm H locs → lv_has ls 3 [(0, .ref x0), (1, .int x1)] → W p l e R s m args below meth c H locs 0 0 Q (F0 m 0 ls []) := by
  have hx := X.1
  have hb := X.2.1
  have hR1 := hR.1
  have hR2 := hR.2
  have hRa : 7 ≤ R.frames := by omega
  have hRb : 159 ≤ R.locals := by omega
  unfold fX10_readSteps_o at hf
  have hj68 : ∀ (mm : Mem) (H : Heap) (locs : List Loc) (ls : Array Slot), fX10_readSteps_j68 (eS E) S mm = some (r, mm1) → wS E s mm H locs → lv_has ls 3 [] → W p l e R s m args below meth c H locs 0 0 Q (F0 m 68 ls []) := by
    intro mm H locs ls hf hS hl
    unfold fX10_readSteps_j68 at hf
    refine lv_iconst (v := 0) hx hb dX10_readSteps_68 (by decide) ?_
    cases hf
    exact hret _ _ _ _ rfl dX10_readSteps_69 hS
  have hj38 : ∀ (mm : Mem) (H : Heap) (locs : List Loc) (ls : Array Slot), fX10_readSteps_j38 (eS E) S mm = some (r, mm1) → wS E s mm H locs → lv_has ls 3 [] → W p l e R s m args below meth c H locs 0 0 Q (F0 m 38 ls []) := by
    intro mm H locs ls hf hS hl
    unfold fX10_readSteps_j38 at hf
    refine lv_iconst (v := 1) hx hb dX10_readSteps_38 (by decide) ?_
    cases hf
    exact hret _ _ _ _ rfl dX10_readSteps_39 hS
  have hj23 : ∀ (mm : Mem) (H : Heap) (locs : List Loc) (ls : Array Slot), fX10_readSteps_j23 (eS E) S mm = some (r, mm1) → wS E s mm H locs → lv_has ls 3 [] → W p l e R s m args below meth c H locs 0 0 Q (F0 m 23 ls []) := by
    intro mm H locs ls hf hS hl
    unfold fX10_readSteps_j23 at hf
    refine lv_goto (tgt := 38) hx hb dX10_readSteps_23 (by decide) ?_
    exact hj38 mm H locs ls hf hS hl
  have hj60 : ∀ (mm : Mem) (H : Heap) (locs : List Loc) (ls : Array Slot), fX10_readSteps_j60 (eS E) S mm = some (r, mm1) → wS E s mm H locs → lv_has ls 3 [] → W p l e R s m args below meth c H locs 0 0 Q (F0 m 60 ls []) := by
    intro mm H locs ls hf hS hl
    unfold fX10_readSteps_j60 at hf
    refine lv_iconst (v := 0) hx hb dX10_readSteps_60 (by decide) ?_
    cases hf
    exact hret _ _ _ _ rfl dX10_readSteps_61 hS
  intro H locs ls hS hl
  refine lv_iconst (v := 0) hx hb dX10_readSteps_0 (by decide) ?_
  refine lv_topi (fun x2_1 e1 => ?_)
  have hf := lt1_n e1 hf
  refine lv_istore_n (lv' := [(2, .int x2_1), (0, .ref x0), (1, .int x1)]) hx hb dX10_readSteps_1 rfl hl (by decide) rfl (fun ls hl => ?_)
  obtain ⟨ex2, hl2, hk2⟩ := bs hf
  refine loop_W (P := fun st => ∀ (H : Heap) (locs : List Loc) (ls : Array Slot), wS E s st.2 H locs → lv_has ls 3 [(0, .ref x0), (1, .int x1), (2, .int st.1)] → W p l e R s m args below meth c H locs 0 0 Q (F0 m 2 ls [])) (ex := ex2) ?_ FU _ hl2 H locs ls hS (lv_sub hl [1, 2, 0] rfl)
  intro st y2 hf hyL2 hyR2 H locs ls hS hl
  obtain ⟨x2, mm⟩ := st
  have hf : fX10_readSteps_b2 (eS E) S x0 x1 x2 mm = some y2 := hf
  have hS : wS E s mm H locs := hS
  have hl : lv_has ls 3 [(0, .ref x0), (1, .int x1), (2, .int x2)] := hl
  unfold fX10_readSteps_b2 at hf
  have hj40 : ∀ (x2 : Int32) (mm : Mem) (H : Heap) (locs : List Loc) (ls : Array Slot), fX10_readSteps_j40 (eS E) S x0 x1 x2 mm = some y2 → wS E s mm H locs → lv_has ls 3 [(0, .ref x0), (1, .int x1), (2, .int x2)] → W p l e R s m args below meth c H locs 0 0 Q (F0 m 40 ls []) := by
    intro x2 mm H locs ls hf hS hl
    unfold fX10_readSteps_j40 at hf
    refine lv_aload_n hx hb dX10_readSteps_40 rfl (lv_at hl 0 rfl) ?_
    refine lv_iload_n hx hb dX10_readSteps_41 rfl (lv_at hl 1 rfl) ?_
    obtain ⟨u0, h0, hf⟩ := bs hf
    obtain ⟨_, hrc⟩ := isO_n h0
    obtain ⟨v2, m3, h1, hf⟩ := bs2 hf
    refine am_endi hS (am_runV (As := [.int x1]) X (hml.trans hl.1.symm) hS (cX10_readStep_o_ok (l := l) (E := E) hSc h1) mv_X10_66 hrc rfl ⟨by omega, by omega⟩ ⟨Nat.zero_le _, Nat.zero_le _⟩ rfl rfl (Nat.le_of_ble_eq_true rfl) dX10_readSteps_42) (fun H locs hS => ?_)
    refine lv_if_eq (tgt := 60) hx hb dX10_readSteps_45 (by decide) (fun q4 => ?_) (fun q4 => ?_)
    · have hf := ifp hf q4
      obtain rfl : Sum.inr (Sum.inr (Sum.inl m3)) = ex2 := hyR2 _ (Option.some.inj hf).symm
      exact hj60 m3 H locs ls hk2 hS (lv_sub hl [] rfl)
    · have hf := ifn hf q4
      refine lv_aload_n hx hb dX10_readSteps_48 rfl (lv_at hl 0 rfl) ?_
      obtain ⟨a5, h1, hf⟩ := bs hf
      refine am_gr X hS fl_X10_9 rfl h1 dX10_readSteps_49 ?_
      refine lv_bipush (v := 59) hx hb dX10_readSteps_52 (by decide) ?_
      obtain ⟨u0, h0, hf⟩ := bs hf
      obtain ⟨_, hrc⟩ := isO_n h0
      obtain ⟨v6, m7, h1, hf⟩ := bs2 hf
      refine am_endi hS (am_runV (As := [.int 59]) X (hml.trans hl.1.symm) hS (cX8_wants_ok (l := l) (E := E) h1) mv_X10_69 hrc rfl ⟨Nat.le_trans (by decide) hRa, Nat.le_trans (by decide) hRb⟩ ⟨Nat.zero_le _, Nat.zero_le _⟩ rfl rfl (Nat.le_of_ble_eq_true rfl) dX10_readSteps_54) (fun H locs hS => ?_)
      refine lv_if_ne (tgt := 62) hx hb dX10_readSteps_57 (by decide) (fun q8 => ?_) (fun q8 => ?_)
      · have hf := ifn hf q8
        obtain ⟨x2_9, e1⟩ : ∃ z : Int32, z = x2 + 1 := ⟨_, rfl⟩
        have hf := lt1_n e1 hf
        refine lv_iinc (v := x2_9) (lv' := [(2, .int x2_9), (0, .ref x0), (1, .int x1)]) hx hb dX10_readSteps_62 hl (k := 2) rfl (by rw [e1]; rfl) (by decide) rfl (fun ls hl => ?_)
        refine lv_goto (tgt := 2) hx hb dX10_readSteps_65 (by decide) ?_
        exact hyL2 _ (Option.some.inj hf).symm H locs ls hS (lv_sub hl [1, 2, 0] rfl)
      · have hf := ifp hf q8
        obtain rfl : Sum.inr (Sum.inr (Sum.inl m7)) = ex2 := hyR2 _ (Option.some.inj hf).symm
        exact hj60 m7 H locs ls hk2 hS (lv_sub hl [] rfl)
  refine lv_iload_n hx hb dX10_readSteps_2 rfl (lv_at hl 2 rfl) ?_
  refine lv_sipush (v := 150) hx hb dX10_readSteps_3 (by decide) ?_
  refine lv_icmp_ge (tgt := 68) hx hb dX10_readSteps_6 (by decide) (fun q10 => ?_) (fun q10 => ?_)
  · have hf := ifp hf q10
    obtain rfl : Sum.inr (Sum.inr (Sum.inr (mm))) = ex2 := hyR2 _ (Option.some.inj hf).symm
    exact hj68 mm H locs ls hk2 hS (lv_sub hl [] rfl)
  · have hf := ifn hf q10
    refine lv_iload_n hx hb dX10_readSteps_9 rfl (lv_at hl 1 rfl) ?_
    refine lv_if_ne (tgt := 26) hx hb dX10_readSteps_10 (by decide) (fun q11 => ?_) (fun q11 => ?_)
    · have hf := ifn hf q11
      refine lv_aload_n hx hb dX10_readSteps_26 rfl (lv_at hl 0 rfl) ?_
      obtain ⟨a12, h1, hf⟩ := bs hf
      refine am_gr X hS fl_X10_9 rfl h1 dX10_readSteps_27 ?_
      refine lv_bipush (v := 93) hx hb dX10_readSteps_30 (by decide) ?_
      obtain ⟨u0, h0, hf⟩ := bs hf
      obtain ⟨_, hrc⟩ := isO_n h0
      obtain ⟨v13, m14, h1, hf⟩ := bs2 hf
      refine am_endi hS (am_runV (As := [.int 93]) X (hml.trans hl.1.symm) hS (cX8_sees_ok (l := l) (E := E) h1) mv_X10_62 hrc rfl ⟨Nat.le_trans (by decide) hRa, Nat.le_trans (by decide) hRb⟩ ⟨Nat.zero_le _, Nat.zero_le _⟩ rfl rfl (Nat.le_of_ble_eq_true rfl) dX10_readSteps_32) (fun H locs hS => ?_)
      refine lv_if_eq (tgt := 40) hx hb dX10_readSteps_35 (by decide) (fun q15 => ?_) (fun q15 => ?_)
      · have hf := ifp hf q15
        exact hj40 x2 m14 H locs ls hf hS hl
      · have hf := ifn hf q15
        obtain rfl : Sum.inr (Sum.inl m14) = ex2 := hyR2 _ (Option.some.inj hf).symm
        exact hj38 m14 H locs ls hk2 hS (lv_sub hl [] rfl)
    · have hf := ifp hf q11
      refine lv_aload_n hx hb dX10_readSteps_13 rfl (lv_at hl 0 rfl) ?_
      obtain ⟨a16, h1, hf⟩ := bs hf
      refine am_gr X hS fl_X10_9 rfl h1 dX10_readSteps_14 ?_
      obtain ⟨u0, h0, hf⟩ := bs hf
      obtain ⟨_, hrc⟩ := isO_n h0
      obtain ⟨v17, m18, h1, hf⟩ := bs2 hf
      refine am_endi hS (am_runV (As := []) X (hml.trans hl.1.symm) hS (cX8_ended_ok (l := l) (E := E) h1) mv_X10_56 hrc rfl ⟨Nat.le_trans (by decide) hRa, Nat.le_trans (by decide) hRb⟩ ⟨Nat.zero_le _, Nat.zero_le _⟩ rfl rfl (Nat.le_of_ble_eq_true rfl) dX10_readSteps_17) (fun H locs hS => ?_)
      refine lv_if_eq (tgt := 40) hx hb dX10_readSteps_20 (by decide) (fun q19 => ?_) (fun q19 => ?_)
      · have hf := ifp hf q19
        exact hj40 x2 m18 H locs ls hf hS hl
      · have hf := ifn hf q19
        obtain rfl : Sum.inl m18 = ex2 := hyR2 _ (Option.some.inj hf).symm
        exact hj23 m18 H locs ls hk2 hS (lv_sub hl [] rfl)
set_option maxRecDepth 100000 in
theorem cX10_readSteps_o_ok {l : Launch} {E : Ev} {S : Nat → Int32 → Mem → Option (Int32 × Mem)} {fr0 lo0 : Nat} (hSc : ∀ {z0 : Nat} {z1 : Int32} {m0 : Mem} {rz : Int32} {mz : Mem}, S z0 z1 m0 = some (rz, mz) → CtI l yX10_readSteps cX10_readSteps 3 (some .boolean) fr0 lo0 E [.ref z0, .int z1] m0 rz mz) {x0 : Nat} {x1 : Int32} {mm : Mem} {r : Int32} {mm1 : Mem} (hf : fX10_readSteps_o (eS E) S x0 x1 mm = some (r, mm1)) : CtI l yX10_readSteps cX10_readSteps 3 (some .boolean) (fr0 + 7) (lo0 + 159) E [.ref x0, .int x1] mm r mm1 := by
  refine Met.ofW (cc := cX10_readSteps) (maxL := 3) (ret := (some .boolean)) (by decide) rfl ?_
  intro p e s m args below meth c s₁ B hml hv
  obtain ⟨rfl, X, hS, hr, hlocks⟩ := am_in B hv
  refine am_entry (Nat.le_of_ble_eq_true rfl) (fun ls hl => ?_)
  exact wX10_readSteps hSc X hml ⟨Nat.le_refl _, Nat.le_refl _⟩ hf (fun pc H locs ls hn hd hS => am_ri X hS hr hn hd hlocks) _ _ ls hS hl
theorem cX10_readSteps_ok {l : Launch} {E : Ev} : ∀ (d : Nat) {x0 : Nat} {x1 : Int32} {mm : Mem} {r : Int32} {mm1 : Mem}, fX10_readSteps (eS E) d x0 x1 mm = some (r, mm1) → CtI l yX10_readSteps cX10_readSteps 3 (some .boolean) (7 * d) (159 * d) E [.ref x0, .int x1] mm r mm1 := by
  intro d
  induction d with
  | zero => intro _ _ _ _ _ h; cases h
  | succ d ih =>
    intro _ _ _ _ _ hf
    exact cX10_readSteps_o_ok (S := fX10_readSteps (eS E) d) (fr0 := 7 * d) (lo0 := 159 * d) (fun h => ih h) hf
set_option maxHeartbeats 4000000 in
set_option maxRecDepth 100000 in
theorem wX10_read {p : Program} {l : Launch} {e : Env} {R : Room} {s : State} {m : MethodId} {args : Array Value} {below : List Frame} {meth : Method} {c : Code} {Q : State → Prop} {E : Ev} (X : Cx p s m args c cX10_read RX10 E) (hml : c.maxLocals = 1) (hR : 71 ≤ R.frames ∧ 1612 ≤ R.locals) {x0 : Nat} {mm : Mem} {r : Int32} {mm1 : Mem} (hf : fX10_read (eS E) x0 mm = some (r, mm1)) (hret : ∀ (pc : Nat) (H : Heap) (locs : List Loc) (ls : Array Slot), narrow .boolean (.int r) = .int r → decode cX10_read pc = .ok (.ireturn, 1) → wS E s mm1 H locs → W p l e R s m args below meth c H locs 0 0 Q (F0 m pc ls [.int r])) : ∀ (H : Heap) (locs : List Loc) (ls : Array Slot), wS E s mm H locs → lv_has ls 1 [(0, .ref x0)] → W p l e R s m args below meth c H locs 0 0 Q (F0 m 0 ls []) := by
  have hx := X.1
  have hb := X.2.1
  have hR1 := hR.1
  have hR2 := hR.2
  have hRa : 71 ≤ R.frames := by omega
  have hRb : 1612 ≤ R.locals := by omega
  unfold fX10_read at hf
  intro H locs ls hS hl
  refine lv_aload_n hx hb dX10_read_0 rfl (lv_at hl 0 rfl) ?_
  refine lv_iconst (v := 0) hx hb dX10_read_1 (by decide) ?_
  obtain ⟨m1, h1, hf⟩ := bs hf
  refine am_pi X hS fp_X10_39 rfl h1 dX10_read_2 (fun H locs hS => ?_)
  refine lv_aload_n hx hb dX10_read_5 rfl (lv_at hl 0 rfl) ?_
  refine lv_iconst (v := 0) hx hb dX10_read_6 (by decide) ?_
  obtain ⟨m2, h1, hf⟩ := bs hf
  refine am_pi X hS fp_X10_43 rfl h1 dX10_read_7 (fun H locs hS => ?_)
  refine lv_aload_n hx hb dX10_read_10 rfl (lv_at hl 0 rfl) ?_
  refine lv_iconst (v := 0) hx hb dX10_read_11 (by decide) ?_
  obtain ⟨m3, h1, hf⟩ := bs hf
  refine am_pi X hS fp_X10_46 rfl h1 dX10_read_12 (fun H locs hS => ?_)
  refine lv_aload_n hx hb dX10_read_15 rfl (lv_at hl 0 rfl) ?_
  refine lv_iconst (v := 0) hx hb dX10_read_16 (by decide) ?_
  obtain ⟨m4, h1, hf⟩ := bs hf
  refine am_pi X hS fp_X10_49 rfl h1 dX10_read_17 (fun H locs hS => ?_)
  refine lv_aload_n hx hb dX10_read_20 rfl (lv_at hl 0 rfl) ?_
  refine lv_iconst (v := 0) hx hb dX10_read_21 (by decide) ?_
  obtain ⟨u0, h0, hf⟩ := bs hf
  obtain ⟨_, hrc⟩ := isO_n h0
  obtain ⟨v5, m6, h1, hf⟩ := bs2 hf
  refine am_endi hS (am_runV (As := [.int 0]) X (hml.trans hl.1.symm) hS (cX10_readSteps_ok (l := l) (E := E) DP h1) mv_X10_52 hrc rfl ⟨Nat.le_trans (by decide) hRa, Nat.le_trans (by decide) hRb⟩ ⟨Nat.zero_le _, Nat.zero_le _⟩ rfl rfl (Nat.le_of_ble_eq_true rfl) dX10_read_22) (fun H locs hS => ?_)
  obtain ⟨v7, h1, hf⟩ := bs hf
  obtain ⟨rfl, h2⟩ := ckZ_n h1
  cases hf
  exact hret _ _ _ _ h2 dX10_read_25 hS
set_option maxRecDepth 100000 in
theorem cX10_read_ok {l : Launch} {E : Ev} {x0 : Nat} {mm : Mem} {r : Int32} {mm1 : Mem} (hf : fX10_read (eS E) x0 mm = some (r, mm1)) : CtI l yX10_read cX10_read 1 (some .boolean) (71) (1612) E [.ref x0] mm r mm1 := by
  refine Met.ofW (cc := cX10_read) (maxL := 1) (ret := (some .boolean)) (by decide) rfl ?_
  intro p e s m args below meth c s₁ B hml hv
  obtain ⟨rfl, X, hS, hr, hlocks⟩ := am_in B hv
  refine am_entry (Nat.le_of_ble_eq_true rfl) (fun ls hl => ?_)
  exact wX10_read X hml ⟨Nat.le_refl _, Nat.le_refl _⟩ hf (fun pc H locs ls hn hd hS => am_ri X hS hr hn hd hlocks) _ _ ls hS hl
set_option maxHeartbeats 4000000 in
set_option maxRecDepth 100000 in
theorem wX10_isDone {p : Program} {l : Launch} {e : Env} {R : Room} {s : State} {m : MethodId} {args : Array Value} {below : List Frame} {meth : Method} {c : Code} {Q : State → Prop} {E : Ev} (X : Cx p s m args c cX10_isDone RX10 E) (hml : c.maxLocals = 6) (hR : 5 ≤ R.frames ∧ 124 ≤ R.locals) {x0 : Nat} {x1 : Nat} {x2 : Int32} {mm : Mem} {r : Int32} {mm1 : Mem} (hf : fX10_isDone (eS E) x0 x1 x2 mm = some (r, mm1)) (hret : ∀ (pc : Nat) (H : Heap) (locs : List Loc) (ls : Array Slot), narrow .boolean (.int r) = .int r → decode cX10_isDone pc = .ok (.ireturn, 1) → wS E s mm1 H locs → W p l e R s m args below meth c H locs 0 0 Q (F0 m pc ls [.int r])) : ∀ (H : Heap) (locs : List Loc) (ls : Array Slot), wS E s mm H locs → lv_has ls 6 [(0, .ref x0), (1, .ref x1), (2, .int x2)] → W p l e R s m args below meth c H locs 0 0 Q (F0 m 0 ls []) := by
  have hx := X.1
  have hb := X.2.1
  have hR1 := hR.1
  have hR2 := hR.2
  have hRa : 5 ≤ R.frames := by omega
  have hRb : 124 ≤ R.locals := by omega
  unfold fX10_isDone at hf
  intro H locs ls hS hl
  refine lv_aload_n hx hb dX10_isDone_0 rfl (lv_at hl 0 rfl) ?_
  obtain ⟨a1, h1, hf⟩ := bs hf
  refine am_gr X hS fl_X10_27 rfl h1 dX10_isDone_1 ?_
  refine lv_iload_n hx hb dX10_isDone_4 rfl (lv_at hl 2 rfl) ?_
  obtain ⟨v2, h1, hf⟩ := bs hf
  refine am_ald X hS h1 dX10_isDone_5 ?_
  refine lv_topi (fun x3_3 e1 => ?_)
  have hf := lt1_n e1 hf
  refine lv_istore_n (lv' := [(3, .int x3_3), (0, .ref x0), (1, .ref x1), (2, .int x2)]) hx hb dX10_isDone_6 rfl hl (by decide) rfl (fun ls hl => ?_)
  refine lv_aload_n hx hb dX10_isDone_7 rfl (lv_at hl 1 rfl) ?_
  obtain ⟨a4, h1, hf⟩ := bs hf
  refine am_gr X hS fl_X10_30 rfl h1 dX10_isDone_8 ?_
  refine lv_iload_n hx hb dX10_isDone_11 rfl (lv_at hl 3 rfl) ?_
  obtain ⟨v5, h1, hf⟩ := bs hf
  refine am_ald X hS h1 dX10_isDone_12 ?_
  refine lv_topi (fun x4_6 e1 => ?_)
  have hf := lt1_n e1 hf
  refine lv_istore (lv' := [(4, .int x4_6), (3, .int x3_3), (0, .ref x0), (1, .ref x1), (2, .int x2)]) hx hb dX10_isDone_13 hl (by decide) rfl (fun ls hl => ?_)
  refine lv_aload_n hx hb dX10_isDone_15 rfl (lv_at hl 2 rfl) ?_
  obtain ⟨a7, h1, hf⟩ := bs hf
  refine am_gr X hS fl_X10_33 rfl h1 dX10_isDone_16 ?_
  refine lv_iload_n hx hb dX10_isDone_19 rfl (lv_at hl 4 rfl) ?_
  obtain ⟨v8, h1, hf⟩ := bs hf
  refine am_ald X hS h1 dX10_isDone_20 ?_
  refine lv_topi (fun x5_9 e1 => ?_)
  have hf := lt1_n e1 hf
  refine lv_istore (lv' := [(5, .int x5_9), (4, .int x4_6), (3, .int x3_3), (0, .ref x0), (1, .ref x1), (2, .int x2)]) hx hb dX10_isDone_21 hl (by decide) rfl (fun ls hl => ?_)
  refine lv_aload_n hx hb dX10_isDone_23 rfl (lv_at hl 3 rfl) ?_
  obtain ⟨a10, h1, hf⟩ := bs hf
  refine am_gr X hS fl_X10_23 rfl h1 dX10_isDone_24 ?_
  refine lv_iload_n hx hb dX10_isDone_27 rfl (lv_at hl 5 rfl) ?_
  obtain ⟨v11, h1, hf⟩ := bs hf
  refine am_ald X hS h1 dX10_isDone_28 ?_
  by_cases q16 : v11 = 0
  · have hf := ifp hf q16
    refine lv_tableIn (off := 35) (tgt := 64) hx hb dX10_isDone_29 (by rw [q16]; decide) (by rw [q16]; decide) (by rw [q16]; decide) (by decide) ?_
    refine lv_aload_n hx hb dX10_isDone_64 rfl (lv_at hl 3 rfl) ?_
    obtain ⟨a12, h1, hf⟩ := bs hf
    refine am_gr X hS fl_X10_19 rfl h1 dX10_isDone_65 ?_
    refine lv_aload_n hx hb dX10_isDone_68 rfl (lv_at hl 4 rfl) ?_
    refine lv_iload_n hx hb dX10_isDone_69 rfl (lv_at hl 2 rfl) ?_
    refine lv_iload hx hb dX10_isDone_70 (lv_at hl 1 rfl) ?_
    obtain ⟨u0, h0, hf⟩ := bs hf
    obtain ⟨_, hrc⟩ := isO_n h0
    obtain ⟨v13, m14, h1, hf⟩ := bs2 hf
    refine am_endi hS (am_runV (As := [.ref x1, .int x3_3, .int x4_6]) X (hml.trans hl.1.symm) hS (cX5_partBy_ok (l := l) (E := E) h1) mv_X10_118 hrc rfl ⟨Nat.le_trans (by decide) hRa, Nat.le_trans (by decide) hRb⟩ ⟨Nat.zero_le _, Nat.zero_le _⟩ rfl rfl (Nat.le_of_ble_eq_true rfl) dX10_isDone_72) (fun H locs hS => ?_)
    obtain ⟨v15, h1, hf⟩ := bs hf
    obtain ⟨rfl, h2⟩ := ckZ_n h1
    cases hf
    exact hret _ _ _ _ h2 dX10_isDone_75 hS
  · have hf := ifn hf q16
    by_cases q21 : v11 = 1
    · have hf := ifp hf q21
      refine lv_tableIn (off := 47) (tgt := 76) hx hb dX10_isDone_29 (by rw [q21]; decide) (by rw [q21]; decide) (by rw [q21]; decide) (by decide) ?_
      refine lv_aload_n hx hb dX10_isDone_76 rfl (lv_at hl 3 rfl) ?_
      obtain ⟨a17, h1, hf⟩ := bs hf
      refine am_gr X hS fl_X10_19 rfl h1 dX10_isDone_77 ?_
      refine lv_aload_n hx hb dX10_isDone_80 rfl (lv_at hl 4 rfl) ?_
      refine lv_iload_n hx hb dX10_isDone_81 rfl (lv_at hl 2 rfl) ?_
      refine lv_iload hx hb dX10_isDone_82 (lv_at hl 1 rfl) ?_
      obtain ⟨u0, h0, hf⟩ := bs hf
      obtain ⟨_, hrc⟩ := isO_n h0
      obtain ⟨v18, m19, h1, hf⟩ := bs2 hf
      refine am_endi hS (am_runV (As := [.ref x1, .int x3_3, .int x4_6]) X (hml.trans hl.1.symm) hS (cX5_joinBy_ok (l := l) (E := E) h1) mv_X10_124 hrc rfl ⟨Nat.le_trans (by decide) hRa, Nat.le_trans (by decide) hRb⟩ ⟨Nat.zero_le _, Nat.zero_le _⟩ rfl rfl (Nat.le_of_ble_eq_true rfl) dX10_isDone_84) (fun H locs hS => ?_)
      obtain ⟨v20, h1, hf⟩ := bs hf
      obtain ⟨rfl, h2⟩ := ckZ_n h1
      cases hf
      exact hret _ _ _ _ h2 dX10_isDone_87 hS
    · have hf := ifn hf q21
      by_cases q25 : v11 = 2
      · have hf := ifp hf q25
        refine lv_tableIn (off := 59) (tgt := 88) hx hb dX10_isDone_29 (by rw [q25]; decide) (by rw [q25]; decide) (by rw [q25]; decide) (by decide) ?_
        refine lv_aload_n hx hb dX10_isDone_88 rfl (lv_at hl 4 rfl) ?_
        refine lv_iload_n hx hb dX10_isDone_89 rfl (lv_at hl 2 rfl) ?_
        refine lv_bipush (v := 7) hx hb dX10_isDone_90 (by decide) ?_
        refine lv_imul hx hb dX10_isDone_92 ?_
        refine lv_iload hx hb dX10_isDone_93 (lv_at hl 1 rfl) ?_
        refine lv_iadd hx hb dX10_isDone_95 ?_
        refine lv_iload hx hb dX10_isDone_96 (lv_at hl 0 rfl) ?_
        obtain ⟨u0, h0, hf⟩ := bs hf
        obtain ⟨_, hrc⟩ := isO_n h0
        obtain ⟨v22, m23, h1, hf⟩ := bs2 hf
        refine am_endi hS (am_runV (As := [.int ((x3_3 * 7) + x4_6), .int x5_9]) X (hml.trans hl.1.symm) hS (cX2_takeOut_ok (l := l) (E := E) h1) mv_X10_127 hrc rfl ⟨Nat.le_trans (by decide) hRa, Nat.le_trans (by decide) hRb⟩ ⟨Nat.zero_le _, Nat.zero_le _⟩ rfl rfl (Nat.le_of_ble_eq_true rfl) dX10_isDone_98) (fun H locs hS => ?_)
        obtain ⟨v24, h1, hf⟩ := bs hf
        obtain ⟨rfl, h2⟩ := ckZ_n h1
        cases hf
        exact hret _ _ _ _ h2 dX10_isDone_101 hS
      · have hf := ifn hf q25
        by_cases q29 : v11 = 3
        · have hf := ifp hf q29
          refine lv_tableIn (off := 73) (tgt := 102) hx hb dX10_isDone_29 (by rw [q29]; decide) (by rw [q29]; decide) (by rw [q29]; decide) (by decide) ?_
          refine lv_aload_n hx hb dX10_isDone_102 rfl (lv_at hl 4 rfl) ?_
          refine lv_iload_n hx hb dX10_isDone_103 rfl (lv_at hl 2 rfl) ?_
          refine lv_bipush (v := 7) hx hb dX10_isDone_104 (by decide) ?_
          refine lv_imul hx hb dX10_isDone_106 ?_
          refine lv_iload hx hb dX10_isDone_107 (lv_at hl 1 rfl) ?_
          refine lv_iadd hx hb dX10_isDone_109 ?_
          refine lv_iload hx hb dX10_isDone_110 (lv_at hl 0 rfl) ?_
          obtain ⟨u0, h0, hf⟩ := bs hf
          obtain ⟨_, hrc⟩ := isO_n h0
          obtain ⟨v26, m27, h1, hf⟩ := bs2 hf
          refine am_endi hS (am_runV (As := [.int ((x3_3 * 7) + x4_6), .int x5_9]) X (hml.trans hl.1.symm) hS (cX2_giveBack_ok (l := l) (E := E) h1) mv_X10_132 hrc rfl ⟨Nat.le_trans (by decide) hRa, Nat.le_trans (by decide) hRb⟩ ⟨Nat.zero_le _, Nat.zero_le _⟩ rfl rfl (Nat.le_of_ble_eq_true rfl) dX10_isDone_112) (fun H locs hS => ?_)
          obtain ⟨v28, h1, hf⟩ := bs hf
          obtain ⟨rfl, h2⟩ := ckZ_n h1
          cases hf
          exact hret _ _ _ _ h2 dX10_isDone_115 hS
        · have hf := ifn hf q29
          by_cases q33 : v11 = 4
          · have hf := ifp hf q33
            refine lv_tableIn (off := 87) (tgt := 116) hx hb dX10_isDone_29 (by rw [q33]; decide) (by rw [q33]; decide) (by rw [q33]; decide) (by decide) ?_
            refine lv_aload_n hx hb dX10_isDone_116 rfl (lv_at hl 4 rfl) ?_
            refine lv_iload_n hx hb dX10_isDone_117 rfl (lv_at hl 2 rfl) ?_
            refine lv_bipush (v := 7) hx hb dX10_isDone_118 (by decide) ?_
            refine lv_imul hx hb dX10_isDone_120 ?_
            refine lv_iload hx hb dX10_isDone_121 (lv_at hl 0 rfl) ?_
            refine lv_iadd hx hb dX10_isDone_123 ?_
            refine lv_iload hx hb dX10_isDone_124 (lv_at hl 1 rfl) ?_
            refine lv_bipush (v := 7) hx hb dX10_isDone_126 (by decide) ?_
            refine lv_imul hx hb dX10_isDone_128 ?_
            refine lv_iload hx hb dX10_isDone_129 (lv_at hl 0 rfl) ?_
            refine lv_iadd hx hb dX10_isDone_131 ?_
            obtain ⟨u0, h0, hf⟩ := bs hf
            obtain ⟨_, hrc⟩ := isO_n h0
            obtain ⟨v30, m31, h1, hf⟩ := bs2 hf
            refine am_endi hS (am_runV (As := [.int ((x3_3 * 7) + x5_9), .int ((x4_6 * 7) + x5_9)]) X (hml.trans hl.1.symm) hS (cX2_change_ok (l := l) (E := E) h1) mv_X10_135 hrc rfl ⟨Nat.le_trans (by decide) hRa, Nat.le_trans (by decide) hRb⟩ ⟨Nat.zero_le _, Nat.zero_le _⟩ rfl rfl (Nat.le_of_ble_eq_true rfl) dX10_isDone_132) (fun H locs hS => ?_)
            obtain ⟨v32, h1, hf⟩ := bs hf
            obtain ⟨rfl, h2⟩ := ckZ_n h1
            cases hf
            exact hret _ _ _ _ h2 dX10_isDone_135 hS
          · have hf := ifn hf q33
            refine lv_tableOut (tgt := 136) hx hb dX10_isDone_29 (ts_out (x := v11) (lo := 0) (n := 5) (by decide) (by decide) (fun j hj => match j, hj with | 0, _ => fun h => q16 (h.trans (by decide))  | 1, _ => fun h => q21 (h.trans (by decide))  | 2, _ => fun h => q25 (h.trans (by decide))  | 3, _ => fun h => q29 (h.trans (by decide))  | 4, _ => fun h => q33 (h.trans (by decide)) | j + 5, hj => absurd hj (by omega))) (by decide) ?_
            refine lv_aload_n hx hb dX10_isDone_136 rfl (lv_at hl 4 rfl) ?_
            obtain ⟨v34, h1, hf⟩ := bs hf
            refine am_gi X hS fl_X10_138 rfl h1 dX10_isDone_137 ?_
            refine lv_sipush (v := 400) hx hb dX10_isDone_140 (by decide) ?_
            refine lv_icmp_lt (tgt := 148) hx hb dX10_isDone_143 (by decide) (fun q35 => ?_) (fun q35 => ?_)
            · have hf := ifp hf q35
              refine lv_aload_n hx hb dX10_isDone_148 rfl (lv_at hl 4 rfl) ?_
              obtain ⟨u0, h0, hf⟩ := bs hf
              obtain ⟨_, hrc⟩ := isO_n h0
              obtain ⟨m36, h1, hf⟩ := bs hf
              refine am_endv hS (am_runV (As := []) X (hml.trans hl.1.symm) hS (cX2_passDay_ok (l := l) (E := E) h1) mv_X10_141 hrc rfl ⟨Nat.le_trans (by decide) hRa, Nat.le_trans (by decide) hRb⟩ ⟨Nat.zero_le _, Nat.zero_le _⟩ rfl rfl (Nat.le_of_ble_eq_true rfl) dX10_isDone_149) (fun H locs hS => ?_)
              refine lv_iconst (v := 1) hx hb dX10_isDone_152 (by decide) ?_
              cases hf
              exact hret _ _ _ _ rfl dX10_isDone_153 hS
            · have hf := ifn hf q35
              refine lv_iconst (v := 0) hx hb dX10_isDone_146 (by decide) ?_
              cases hf
              exact hret _ _ _ _ rfl dX10_isDone_147 hS
set_option maxRecDepth 100000 in
theorem cX10_isDone_ok {l : Launch} {E : Ev} {x0 : Nat} {x1 : Nat} {x2 : Int32} {mm : Mem} {r : Int32} {mm1 : Mem} (hf : fX10_isDone (eS E) x0 x1 x2 mm = some (r, mm1)) : CtI l yX10_isDone cX10_isDone 6 (some .boolean) (5) (124) E [.ref x0, .ref x1, .int x2] mm r mm1 := by
  refine Met.ofW (cc := cX10_isDone) (maxL := 6) (ret := (some .boolean)) (by decide) rfl ?_
  intro p e s m args below meth c s₁ B hml hv
  obtain ⟨rfl, X, hS, hr, hlocks⟩ := am_in B hv
  refine am_entry (Nat.le_of_ble_eq_true rfl) (fun ls hl => ?_)
  exact wX10_isDone X hml ⟨Nat.le_refl _, Nat.le_refl _⟩ hf (fun pc H locs ls hn hd hS => am_ri X hS hr hn hd hlocks) _ _ ls hS hl
set_option maxHeartbeats 4000000 in
set_option maxRecDepth 100000 in
theorem wX10_perform {p : Program} {l : Launch} {e : Env} {R : Room} {s : State} {m : MethodId} {args : Array Value} {below : List Frame} {meth : Method} {c : Code} {Q : State → Prop} {E : Ev} {S : Nat → Nat → Int32 → Int32 → Int32 → Mem → Option (Mem)} {fr0 lo0 : Nat} (hSc : ∀ {z0 : Nat} {z1 : Nat} {z2 : Int32} {z3 : Int32} {z4 : Int32} {m0 : Mem} {mz : Mem}, S z0 z1 z2 z3 z4 m0 = some mz → CtV l yX10_perform cX10_perform 8 none fr0 lo0 E [.ref z0, .ref z1, .int z2, .int z3, .int z4] m0 mz) (X : Cx p s m args c cX10_perform RX10 E) (hml : c.maxLocals = 8) (hR : fr0 + 6 ≤ R.frames ∧ lo0 + 149 ≤ R.locals) {x0 : Nat} {x1 : Nat} {x2 : Int32} {x3 : Int32} {x4 : Int32} {mm : Mem} {mm1 : Mem} (hf : fX10_perform_o (eS E) S x0 x1 x2 x3 x4 mm = some mm1) (hret : ∀ (pc : Nat) (H : Heap) (locs : List Loc) (ls : Array Slot), decode cX10_perform pc = .ok (.return_, 1) → wS E s mm1 H locs → W p l e R s m args below meth c H locs 0 0 Q (F0 m pc ls [])) : ∀ (H : Heap) (locs : List Loc) (ls : Array Slot), wS E s mm H locs → lv_has ls 8 [(0, .ref x0), (1, .ref x1), (2, .int x2), (3, .int x3), (4, .int x4)] → W p l e R s m args below meth c H locs 0 0 Q (F0 m 0 ls []) := by
  have hx := X.1
  have hb := X.2.1
  have hR1 := hR.1
  have hR2 := hR.2
  have hRa : 6 ≤ R.frames := by omega
  have hRb : 149 ≤ R.locals := by omega
  unfold fX10_perform_o at hf
  have hj157 : ∀ (mm : Mem) (H : Heap) (locs : List Loc) (ls : Array Slot), fX10_perform_j157 (eS E) S mm = some mm1 → wS E s mm H locs → lv_has ls 8 [] → W p l e R s m args below meth c H locs 0 0 Q (F0 m 157 ls []) := by
    intro mm H locs ls hf hS hl
    unfold fX10_perform_j157 at hf
    cases hf
    exact hret _ _ _ _ dX10_perform_157 hS
  intro H locs ls hS hl
  refine lv_iload hx hb dX10_perform_0 (lv_at hl 4 rfl) ?_
  refine lv_bipush (v := 6) hx hb dX10_perform_2 (by decide) ?_
  refine lv_icmp_le (tgt := 8) hx hb dX10_perform_4 (by decide) (fun q1 => ?_) (fun q1 => ?_)
  · have hf := ifp hf q1
    refine lv_iload_n hx hb dX10_perform_8 rfl (lv_at hl 2 rfl) ?_
    refine lv_topi (fun x5_2 e1 => ?_)
    have hf := lt1_n e1 hf
    refine lv_istore (lv' := [(5, .int x5_2), (0, .ref x0), (1, .ref x1), (2, .int x2), (3, .int x3), (4, .int x4)]) hx hb dX10_perform_9 hl (by decide) rfl (fun ls hl => ?_)
    obtain ⟨ex11, hl11, hk11⟩ := bs hf
    refine loop_W (P := fun st => ∀ (H : Heap) (locs : List Loc) (ls : Array Slot), wS E s st.2 H locs → lv_has ls 8 [(0, .ref x0), (1, .ref x1), (3, .int x3), (4, .int x4), (5, .int st.1)] → W p l e R s m args below meth c H locs 0 0 Q (F0 m 11 ls [])) (ex := ex11) ?_ FU _ hl11 H locs ls hS (lv_sub hl [1, 2, 4, 5, 0] rfl)
    intro st y11 hf hyL11 hyR11 H locs ls hS hl
    obtain ⟨x5, mm⟩ := st
    have hf : fX10_perform_b11 (eS E) S x0 x1 x3 x4 x5 mm = some y11 := hf
    have hS : wS E s mm H locs := hS
    have hl : lv_has ls 8 [(0, .ref x0), (1, .ref x1), (3, .int x3), (4, .int x4), (5, .int x5)] := hl
    unfold fX10_perform_b11 at hf
    have hj151 : ∀ (x5 : Int32) (mm : Mem) (H : Heap) (locs : List Loc) (ls : Array Slot), fX10_perform_j151 (eS E) S x0 x1 x3 x4 x5 mm = some y11 → wS E s mm H locs → lv_has ls 8 [(0, .ref x0), (1, .ref x1), (3, .int x3), (4, .int x4), (5, .int x5)] → W p l e R s m args below meth c H locs 0 0 Q (F0 m 151 ls []) := by
      intro x5 mm H locs ls hf hS hl
      unfold fX10_perform_j151 at hf
      obtain ⟨x5_3, e1⟩ : ∃ z : Int32, z = x5 + 1 := ⟨_, rfl⟩
      have hf := lt1_n e1 hf
      refine lv_iinc (v := x5_3) (lv' := [(5, .int x5_3), (0, .ref x0), (1, .ref x1), (3, .int x3), (4, .int x4)]) hx hb dX10_perform_151 hl (k := 4) rfl (by rw [e1]; rfl) (by decide) rfl (fun ls hl => ?_)
      refine lv_goto (tgt := 11) hx hb dX10_perform_154 (by decide) ?_
      exact hyL11 _ (Option.some.inj hf).symm H locs ls hS (lv_sub hl [1, 2, 3, 4, 0] rfl)
    have hj104 : ∀ (x5 : Int32) (x6 : Int32) (mm : Mem) (H : Heap) (locs : List Loc) (ls : Array Slot), fX10_perform_j104 (eS E) S x0 x1 x3 x4 x5 x6 mm = some y11 → wS E s mm H locs → lv_has ls 8 [(0, .ref x0), (1, .ref x1), (3, .int x3), (4, .int x4), (5, .int x5), (6, .int x6)] → W p l e R s m args below meth c H locs 0 0 Q (F0 m 104 ls []) := by
      intro x5 x6 mm H locs ls hf hS hl
      unfold fX10_perform_j104 at hf
      refine lv_iload hx hb dX10_perform_104 (lv_at hl 4 rfl) ?_
      refine lv_iload hx hb dX10_perform_106 (lv_at hl 5 rfl) ?_
      refine lv_iconst (v := 1) hx hb dX10_perform_108 (by decide) ?_
      refine lv_isub hx hb dX10_perform_109 ?_
      refine va_mmax hx hb (hml.trans hl.1.symm) X.2.2.2.1 (X.2.2.1 _ (inBi 849 (by decide +kernel))) (X.2.2.1 _ (inBi 850 (by decide +kernel))) (X.2.2.1 _ (inBi 117 (by decide +kernel))) (X.2.2.1 _ (inBi 851 (by decide +kernel))) (Nat.le_trans (by decide) hRa) (Nat.le_trans (Nat.le_of_ble_eq_true rfl) hRb) (Nat.zero_le _) (Nat.zero_le _) dX10_perform_110 ?_
      refine lv_topi (fun x5_4 e1 => ?_)
      have hf := lt1_n e1 hf
      refine lv_istore (lv' := [(5, .int x5_4), (0, .ref x0), (1, .ref x1), (3, .int x3), (4, .int x4), (6, .int x6)]) hx hb dX10_perform_113 hl (by decide) rfl (fun ls hl => ?_)
      refine lv_goto (tgt := 151) hx hb dX10_perform_115 (by decide) ?_
      exact hj151 x5_4 mm H locs ls hf hS (lv_sub hl [1, 2, 3, 4, 0] rfl)
    refine lv_iload hx hb dX10_perform_11 (lv_at hl 4 rfl) ?_
    refine lv_iload_n hx hb dX10_perform_13 rfl (lv_at hl 2 rfl) ?_
    refine lv_icmp_ge (tgt := 157) hx hb dX10_perform_14 (by decide) (fun q5 => ?_) (fun q5 => ?_)
    · have hf := ifp hf q5
      obtain rfl : mm = ex11 := hyR11 _ (Option.some.inj hf).symm
      exact hj157 mm H locs ls hk11 hS (lv_sub hl [] rfl)
    · have hf := ifn hf q5
      refine lv_aload_n hx hb dX10_perform_17 rfl (lv_at hl 0 rfl) ?_
      obtain ⟨v6, h1, hf⟩ := bs hf
      refine am_gi X hS fl_X10_43 rfl h1 dX10_perform_18 ?_
      refine lv_sipush (v := 200) hx hb dX10_perform_21 (by decide) ?_
      refine lv_icmp_ge (tgt := 157) hx hb dX10_perform_24 (by decide) (fun q7 => ?_) (fun q7 => ?_)
      · have hf := ifp hf q7
        obtain rfl : mm = ex11 := hyR11 _ (Option.some.inj hf).symm
        exact hj157 mm H locs ls hk11 hS (lv_sub hl [] rfl)
      · have hf := ifn hf q7
        refine lv_aload_n hx hb dX10_perform_27 rfl (lv_at hl 0 rfl) ?_
        refine lv_dup hx hb dX10_perform_28 rfl ?_
        obtain ⟨v8, h1, hf⟩ := bs hf
        refine am_gi X hS fl_X10_43 rfl h1 dX10_perform_29 ?_
        refine lv_iconst (v := 1) hx hb dX10_perform_32 (by decide) ?_
        refine lv_iadd hx hb dX10_perform_33 ?_
        obtain ⟨m9, h1, hf⟩ := bs hf
        refine am_pi X hS fp_X10_43 rfl h1 dX10_perform_34 (fun H locs hS => ?_)
        refine lv_aload_n hx hb dX10_perform_37 rfl (lv_at hl 0 rfl) ?_
        obtain ⟨a10, h1, hf⟩ := bs hf
        refine am_gr X hS fl_X10_23 rfl h1 dX10_perform_38 ?_
        refine lv_iload hx hb dX10_perform_41 (lv_at hl 4 rfl) ?_
        obtain ⟨v11, h1, hf⟩ := bs hf
        refine am_ald X hS h1 dX10_perform_43 ?_
        refine lv_bipush (v := 6) hx hb dX10_perform_44 (by decide) ?_
        refine lv_icmp_ne (tgt := 118) hx hb dX10_perform_46 (by decide) (fun q12 => ?_) (fun q12 => ?_)
        · have hf := ifn hf q12
          refine lv_aload_n hx hb dX10_perform_118 rfl (lv_at hl 0 rfl) ?_
          refine lv_aload_n hx hb dX10_perform_119 rfl (lv_at hl 1 rfl) ?_
          refine lv_iload hx hb dX10_perform_120 (lv_at hl 4 rfl) ?_
          obtain ⟨u0, h0, hf⟩ := bs hf
          obtain ⟨_, hrc⟩ := isO_n h0
          obtain ⟨v13, m14, h1, hf⟩ := bs2 hf
          refine am_endi hS (am_runV (As := [.ref x1, .int x5]) X (hml.trans hl.1.symm) hS (cX10_isDone_ok (l := l) (E := E) h1) mv_X10_114 hrc rfl ⟨Nat.le_trans (by decide) hRa, Nat.le_trans (by decide) hRb⟩ ⟨Nat.zero_le _, Nat.zero_le _⟩ rfl rfl (Nat.le_of_ble_eq_true rfl) dX10_perform_122) (fun H locs hS => ?_)
          refine lv_if_eq (tgt := 141) hx hb dX10_perform_125 (by decide) (fun q15 => ?_) (fun q15 => ?_)
          · have hf := ifp hf q15
            refine lv_aload_n hx hb dX10_perform_141 rfl (lv_at hl 0 rfl) ?_
            refine lv_dup hx hb dX10_perform_142 rfl ?_
            obtain ⟨v16, h1, hf⟩ := bs hf
            refine am_gi X hS fl_X10_49 rfl h1 dX10_perform_143 ?_
            refine lv_iconst (v := 1) hx hb dX10_perform_146 (by decide) ?_
            refine lv_iadd hx hb dX10_perform_147 ?_
            obtain ⟨m17, h1, hf⟩ := bs hf
            refine am_pi X hS fp_X10_49 rfl h1 dX10_perform_148 (fun H locs hS => ?_)
            exact hj151 x5 m17 H locs ls hf hS hl
          · have hf := ifn hf q15
            refine lv_aload_n hx hb dX10_perform_128 rfl (lv_at hl 0 rfl) ?_
            refine lv_dup hx hb dX10_perform_129 rfl ?_
            obtain ⟨v18, h1, hf⟩ := bs hf
            refine am_gi X hS fl_X10_46 rfl h1 dX10_perform_130 ?_
            refine lv_iconst (v := 1) hx hb dX10_perform_133 (by decide) ?_
            refine lv_iadd hx hb dX10_perform_134 ?_
            obtain ⟨m19, h1, hf⟩ := bs hf
            refine am_pi X hS fp_X10_46 rfl h1 dX10_perform_135 (fun H locs hS => ?_)
            refine lv_goto (tgt := 151) hx hb dX10_perform_138 (by decide) ?_
            exact hj151 x5 m19 H locs ls hf hS hl
        · have hf := ifp hf q12
          refine lv_aload_n hx hb dX10_perform_49 rfl (lv_at hl 0 rfl) ?_
          obtain ⟨a20, h1, hf⟩ := bs hf
          refine am_gr X hS fl_X10_36 rfl h1 dX10_perform_50 ?_
          refine lv_iload hx hb dX10_perform_53 (lv_at hl 4 rfl) ?_
          obtain ⟨v21, h1, hf⟩ := bs hf
          refine am_ald X hS h1 dX10_perform_55 ?_
          refine lv_topi (fun x6_22 e1 => ?_)
          have hf := lt1_n e1 hf
          refine lv_istore (lv' := [(6, .int x6_22), (0, .ref x0), (1, .ref x1), (3, .int x3), (4, .int x4), (5, .int x5)]) hx hb dX10_perform_56 hl (by decide) rfl (fun ls hl => ?_)
          refine lv_iconst (v := 0) hx hb dX10_perform_58 (by decide) ?_
          refine lv_topi (fun x7_23 e1 => ?_)
          have hf := lt1_n e1 hf
          refine lv_istore (lv' := [(7, .int x7_23), (6, .int x6_22), (0, .ref x0), (1, .ref x1), (3, .int x3), (4, .int x4), (5, .int x5)]) hx hb dX10_perform_59 hl (by decide) rfl (fun ls hl => ?_)
          obtain ⟨ex61, hl61, hk61⟩ := bs hf
          refine loop_W (P := fun st => ∀ (H : Heap) (locs : List Loc) (ls : Array Slot), wS E s st.2 H locs → lv_has ls 8 [(0, .ref x0), (1, .ref x1), (3, .int x3), (4, .int x4), (5, .int x5), (6, .int x6_22), (7, .int st.1)] → W p l e R s m args below meth c H locs 0 0 Q (F0 m 61 ls [])) (ex := ex61) ?_ FU _ hl61 H locs ls hS (lv_sub hl [2, 3, 4, 5, 6, 1, 0] rfl)
          intro st y61 hf hyL61 hyR61 H locs ls hS hl
          obtain ⟨x7, mm⟩ := st
          obtain ⟨x6, rfl⟩ : ∃ z, z = x6_22 := ⟨_, rfl⟩
          have hf : fX10_perform_b61 (eS E) S x0 x1 x3 x4 x5 x6 x7 mm = some y61 := hf
          have hS : wS E s mm H locs := hS
          have hl : lv_has ls 8 [(0, .ref x0), (1, .ref x1), (3, .int x3), (4, .int x4), (5, .int x5), (6, .int x6), (7, .int x7)] := hl
          unfold fX10_perform_b61 at hf
          refine lv_iload hx hb dX10_perform_61 (lv_at hl 6 rfl) ?_
          refine lv_aload_n hx hb dX10_perform_63 rfl (lv_at hl 0 rfl) ?_
          obtain ⟨a24, h1, hf⟩ := bs hf
          refine am_gr X hS fl_X10_27 rfl h1 dX10_perform_64 ?_
          refine lv_iload hx hb dX10_perform_67 (lv_at hl 4 rfl) ?_
          obtain ⟨v25, h1, hf⟩ := bs hf
          refine am_ald X hS h1 dX10_perform_69 ?_
          refine lv_icmp_ge (tgt := 104) hx hb dX10_perform_70 (by decide) (fun q26 => ?_) (fun q26 => ?_)
          · have hf := ifp hf q26
            obtain rfl : mm = ex61 := hyR61 _ (Option.some.inj hf).symm
            exact hj104 x5 x6 mm H locs ls hk61 hS (lv_sub hl [0, 1, 2, 3, 4, 5] rfl)
          · have hf := ifn hf q26
            refine lv_aload_n hx hb dX10_perform_73 rfl (lv_at hl 0 rfl) ?_
            obtain ⟨v27, h1, hf⟩ := bs hf
            refine am_gi X hS fl_X10_43 rfl h1 dX10_perform_74 ?_
            refine lv_sipush (v := 200) hx hb dX10_perform_77 (by decide) ?_
            refine lv_icmp_ge (tgt := 104) hx hb dX10_perform_80 (by decide) (fun q28 => ?_) (fun q28 => ?_)
            · have hf := ifp hf q28
              obtain rfl : mm = ex61 := hyR61 _ (Option.some.inj hf).symm
              exact hj104 x5 x6 mm H locs ls hk61 hS (lv_sub hl [0, 1, 2, 3, 4, 5] rfl)
            · have hf := ifn hf q28
              refine lv_aload_n hx hb dX10_perform_83 rfl (lv_at hl 0 rfl) ?_
              refine lv_aload_n hx hb dX10_perform_84 rfl (lv_at hl 1 rfl) ?_
              refine lv_iload hx hb dX10_perform_85 (lv_at hl 4 rfl) ?_
              refine lv_iconst (v := 1) hx hb dX10_perform_87 (by decide) ?_
              refine lv_iadd hx hb dX10_perform_88 ?_
              refine lv_iload hx hb dX10_perform_89 (lv_at hl 5 rfl) ?_
              refine lv_iload hx hb dX10_perform_91 (lv_at hl 3 rfl) ?_
              refine lv_iconst (v := 1) hx hb dX10_perform_93 (by decide) ?_
              refine lv_iadd hx hb dX10_perform_94 ?_
              obtain ⟨u0, h0, hf⟩ := bs hf
              obtain ⟨_, hrc⟩ := isO_n h0
              obtain ⟨m29, h1, hf⟩ := bs hf
              refine am_endv hS (am_runV (As := [.ref x1, .int (x5 + 1), .int x6, .int (x4 + 1)]) X (hml.trans hl.1.symm) hS (hSc h1) mv_X10_105 hrc rfl ⟨by omega, by omega⟩ ⟨Nat.zero_le _, Nat.zero_le _⟩ rfl rfl (Nat.le_of_ble_eq_true rfl) dX10_perform_95) (fun H locs hS => ?_)
              obtain ⟨x7_30, e1⟩ : ∃ z : Int32, z = x7 + 1 := ⟨_, rfl⟩
              have hf := lt1_n e1 hf
              refine lv_iinc (v := x7_30) (lv' := [(7, .int x7_30), (0, .ref x0), (1, .ref x1), (3, .int x3), (4, .int x4), (5, .int x5), (6, .int x6)]) hx hb dX10_perform_98 hl (k := 6) rfl (by rw [e1]; rfl) (by decide) rfl (fun ls hl => ?_)
              refine lv_goto (tgt := 61) hx hb dX10_perform_101 (by decide) ?_
              exact hyL61 _ (Option.some.inj hf).symm H locs ls hS (lv_sub hl [1, 2, 3, 4, 5, 6, 0] rfl)
  · have hf := ifn hf q1
    cases hf
    exact hret _ _ _ _ dX10_perform_7 hS
set_option maxRecDepth 100000 in
theorem cX10_perform_o_ok {l : Launch} {E : Ev} {S : Nat → Nat → Int32 → Int32 → Int32 → Mem → Option (Mem)} {fr0 lo0 : Nat} (hSc : ∀ {z0 : Nat} {z1 : Nat} {z2 : Int32} {z3 : Int32} {z4 : Int32} {m0 : Mem} {mz : Mem}, S z0 z1 z2 z3 z4 m0 = some mz → CtV l yX10_perform cX10_perform 8 none fr0 lo0 E [.ref z0, .ref z1, .int z2, .int z3, .int z4] m0 mz) {x0 : Nat} {x1 : Nat} {x2 : Int32} {x3 : Int32} {x4 : Int32} {mm : Mem} {mm1 : Mem} (hf : fX10_perform_o (eS E) S x0 x1 x2 x3 x4 mm = some mm1) : CtV l yX10_perform cX10_perform 8 none (fr0 + 6) (lo0 + 149) E [.ref x0, .ref x1, .int x2, .int x3, .int x4] mm mm1 := by
  refine Met.ofW (cc := cX10_perform) (maxL := 8) (ret := none) (by decide) rfl ?_
  intro p e s m args below meth c s₁ B hml hv
  obtain ⟨rfl, X, hS, hr, hlocks⟩ := am_in B hv
  refine am_entry (Nat.le_of_ble_eq_true rfl) (fun ls hl => ?_)
  exact wX10_perform hSc X hml ⟨Nat.le_refl _, Nat.le_refl _⟩ hf (fun pc H locs ls hd hS => am_rv X hS hr hd hlocks) _ _ ls hS hl
theorem cX10_perform_ok {l : Launch} {E : Ev} : ∀ (d : Nat) {x0 : Nat} {x1 : Nat} {x2 : Int32} {x3 : Int32} {x4 : Int32} {mm : Mem} {mm1 : Mem}, fX10_perform (eS E) d x0 x1 x2 x3 x4 mm = some mm1 → CtV l yX10_perform cX10_perform 8 none (6 * d) (149 * d) E [.ref x0, .ref x1, .int x2, .int x3, .int x4] mm mm1 := by
  intro d
  induction d with
  | zero => intro _ _ _ _ _ _ _ h; cases h
  | succ d ih =>
    intro _ _ _ _ _ _ _ hf
    exact cX10_perform_o_ok (S := fX10_perform (eS E) d) (fr0 := 6 * d) (lo0 := 149 * d) (fun h => ih h) hf

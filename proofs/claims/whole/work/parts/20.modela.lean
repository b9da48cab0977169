theorem dX12_withinOf_0 : decode cX12_withinOf 0 = .ok (.aload_n 0, 1) := by decide +kernel
theorem dX12_withinOf_1 : decode cX12_withinOf 1 = .ok (.iconst 0, 1) := by decide +kernel
theorem dX12_withinOf_2 : decode cX12_withinOf 2 = .ok (.iload_n 1, 1) := by decide +kernel
theorem dX12_withinOf_3 : decode cX12_withinOf 3 = .ok (.iconst 0, 1) := by decide +kernel
theorem dX12_withinOf_4 : decode cX12_withinOf 4 = .ok (.invokestatic 319, 3) := by decide +kernel
theorem dX12_withinOf_7 : decode cX12_withinOf 7 = .ok (.bipush 7, 2) := by decide +kernel
theorem dX12_withinOf_9 : decode cX12_withinOf 9 = .ok (.invokevirtual 322, 3) := by decide +kernel
theorem dX12_withinOf_12 : decode cX12_withinOf 12 = .ok (.ireturn, 1) := by decide +kernel
theorem dX12_isParted_0 : decode cX12_isParted 0 = .ok (.aload_n 0, 1) := by decide +kernel
theorem dX12_isParted_1 : decode cX12_isParted 1 = .ok (.iload_n 2, 1) := by decide +kernel
theorem dX12_isParted_2 : decode cX12_isParted 2 = .ok (.invokevirtual 335, 3) := by decide +kernel
theorem dX12_isParted_5 : decode cX12_isParted 5 = .ok (.ifCond .ne 11, 3) := by decide +kernel
theorem dX12_isParted_8 : decode cX12_isParted 8 = .ok (.aload_n 0, 1) := by decide +kernel
theorem dX12_isParted_9 : decode cX12_isParted 9 = .ok (.iload_n 1, 1) := by decide +kernel
theorem dX12_isParted_10 : decode cX12_isParted 10 = .ok (.invokevirtual 328, 3) := by decide +kernel
theorem dX12_isParted_13 : decode cX12_isParted 13 = .ok (.ifCond .ne 5, 3) := by decide +kernel
theorem dX12_isParted_16 : decode cX12_isParted 16 = .ok (.iconst 0, 1) := by decide +kernel
theorem dX12_isParted_17 : decode cX12_isParted 17 = .ok (.ireturn, 1) := by decide +kernel
theorem dX12_isParted_18 : decode cX12_isParted 18 = .ok (.iconst 0, 1) := by decide +kernel
theorem dX12_isParted_19 : decode cX12_isParted 19 = .ok (.istore_n 3, 1) := by decide +kernel
theorem dX12_isParted_20 : decode cX12_isParted 20 = .ok (.iload_n 3, 1) := by decide +kernel
theorem dX12_isParted_21 : decode cX12_isParted 21 = .ok (.bipush 7, 2) := by decide +kernel
theorem dX12_isParted_23 : decode cX12_isParted 23 = .ok (.if_icmp .ge 33, 3) := by decide +kernel
theorem dX12_isParted_26 : decode cX12_isParted 26 = .ok (.aload_n 0, 1) := by decide +kernel
theorem dX12_isParted_27 : decode cX12_isParted 27 = .ok (.getfield 68, 3) := by decide +kernel
theorem dX12_isParted_30 : decode cX12_isParted 30 = .ok (.iload_n 3, 1) := by decide +kernel
theorem dX12_isParted_31 : decode cX12_isParted 31 = .ok (.aload_n 0, 1) := by decide +kernel
theorem dX12_isParted_32 : decode cX12_isParted 32 = .ok (.iload_n 1, 1) := by decide +kernel
theorem dX12_isParted_33 : decode cX12_isParted 33 = .ok (.iload_n 3, 1) := by decide +kernel
theorem dX12_isParted_34 : decode cX12_isParted 34 = .ok (.iload_n 2, 1) := by decide +kernel
theorem dX12_isParted_35 : decode cX12_isParted 35 = .ok (.aload_n 0, 1) := by decide +kernel
theorem dX12_isParted_36 : decode cX12_isParted 36 = .ok (.getfield 62, 3) := by decide +kernel
theorem dX12_isParted_39 : decode cX12_isParted 39 = .ok (.iconst 0, 1) := by decide +kernel
theorem dX12_isParted_40 : decode cX12_isParted 40 = .ok (.iload_n 1, 1) := by decide +kernel
theorem dX12_isParted_41 : decode cX12_isParted 41 = .ok (.iload_n 3, 1) := by decide +kernel
theorem dX12_isParted_42 : decode cX12_isParted 42 = .ok (.invokestatic 319, 3) := by decide +kernel
theorem dX12_isParted_45 : decode cX12_isParted 45 = .ok (.iaload, 1) := by decide +kernel
theorem dX12_isParted_46 : decode cX12_isParted 46 = .ok (.invokevirtual 338, 3) := by decide +kernel
theorem dX12_isParted_49 : decode cX12_isParted 49 = .ok (.iastore, 1) := by decide +kernel
theorem dX12_isParted_50 : decode cX12_isParted 50 = .ok (.iinc 3 1, 3) := by decide +kernel
theorem dX12_isParted_53 : decode cX12_isParted 53 = .ok (.goto (-33), 3) := by decide +kernel
theorem dX12_isParted_56 : decode cX12_isParted 56 = .ok (.iconst 0, 1) := by decide +kernel
theorem dX12_isParted_57 : decode cX12_isParted 57 = .ok (.istore_n 3, 1) := by decide +kernel
theorem dX12_isParted_58 : decode cX12_isParted 58 = .ok (.iload_n 3, 1) := by decide +kernel
theorem dX12_isParted_59 : decode cX12_isParted 59 = .ok (.bipush 7, 2) := by decide +kernel
theorem dX12_isParted_61 : decode cX12_isParted 61 = .ok (.if_icmp .ge 82, 3) := by decide +kernel
theorem dX12_isParted_64 : decode cX12_isParted 64 = .ok (.aload_n 0, 1) := by decide +kernel
theorem dX12_isParted_65 : decode cX12_isParted 65 = .ok (.getfield 62, 3) := by decide +kernel
theorem dX12_isParted_68 : decode cX12_isParted 68 = .ok (.iconst 0, 1) := by decide +kernel
theorem dX12_isParted_69 : decode cX12_isParted 69 = .ok (.iload_n 1, 1) := by decide +kernel
theorem dX12_isParted_70 : decode cX12_isParted 70 = .ok (.iload_n 3, 1) := by decide +kernel
theorem dX12_isParted_71 : decode cX12_isParted 71 = .ok (.invokestatic 319, 3) := by decide +kernel
theorem dX12_isParted_74 : decode cX12_isParted 74 = .ok (.iaload, 1) := by decide +kernel
theorem dX12_isParted_75 : decode cX12_isParted 75 = .ok (.ifCond .ne 6, 3) := by decide +kernel
theorem dX12_isParted_78 : decode cX12_isParted 78 = .ok (.goto 59, 3) := by decide +kernel
theorem dX12_isParted_81 : decode cX12_isParted 81 = .ok (.aload_n 0, 1) := by decide +kernel
theorem dX12_isParted_82 : decode cX12_isParted 82 = .ok (.getfield 62, 3) := by decide +kernel
theorem dX12_isParted_85 : decode cX12_isParted 85 = .ok (.bipush 42, 2) := by decide +kernel
theorem dX12_isParted_87 : decode cX12_isParted 87 = .ok (.iload_n 1, 1) := by decide +kernel
theorem dX12_isParted_88 : decode cX12_isParted 88 = .ok (.iload_n 3, 1) := by decide +kernel
theorem dX12_isParted_89 : decode cX12_isParted 89 = .ok (.invokestatic 319, 3) := by decide +kernel
theorem dX12_isParted_92 : decode cX12_isParted 92 = .ok (.dup2, 1) := by decide +kernel
theorem dX12_isParted_93 : decode cX12_isParted 93 = .ok (.iaload, 1) := by decide +kernel
theorem dX12_isParted_94 : decode cX12_isParted 94 = .ok (.aload_n 0, 1) := by decide +kernel
theorem dX12_isParted_95 : decode cX12_isParted 95 = .ok (.getfield 62, 3) := by decide +kernel
theorem dX12_isParted_98 : decode cX12_isParted 98 = .ok (.iconst 0, 1) := by decide +kernel
theorem dX12_isParted_99 : decode cX12_isParted 99 = .ok (.iload_n 1, 1) := by decide +kernel
theorem dX12_isParted_100 : decode cX12_isParted 100 = .ok (.iload_n 3, 1) := by decide +kernel
theorem dX12_isParted_101 : decode cX12_isParted 101 = .ok (.invokestatic 319, 3) := by decide +kernel
theorem dX12_isParted_104 : decode cX12_isParted 104 = .ok (.iaload, 1) := by decide +kernel
theorem dX12_isParted_105 : decode cX12_isParted 105 = .ok (.iadd, 1) := by decide +kernel
theorem dX12_isParted_106 : decode cX12_isParted 106 = .ok (.iastore, 1) := by decide +kernel
theorem dX12_isParted_107 : decode cX12_isParted 107 = .ok (.aload_n 0, 1) := by decide +kernel
theorem dX12_isParted_108 : decode cX12_isParted 108 = .ok (.getfield 62, 3) := by decide +kernel
theorem dX12_isParted_111 : decode cX12_isParted 111 = .ok (.bipush 84, 2) := by decide +kernel
theorem dX12_isParted_113 : decode cX12_isParted 113 = .ok (.iload_n 1, 1) := by decide +kernel
theorem dX12_isParted_114 : decode cX12_isParted 114 = .ok (.iload_n 3, 1) := by decide +kernel
theorem dX12_isParted_115 : decode cX12_isParted 115 = .ok (.invokestatic 319, 3) := by decide +kernel
theorem dX12_isParted_118 : decode cX12_isParted 118 = .ok (.aload_n 0, 1) := by decide +kernel
theorem dX12_isParted_119 : decode cX12_isParted 119 = .ok (.getfield 68, 3) := by decide +kernel
theorem dX12_isParted_122 : decode cX12_isParted 122 = .ok (.iload_n 3, 1) := by decide +kernel
theorem dX12_isParted_123 : decode cX12_isParted 123 = .ok (.iaload, 1) := by decide +kernel
theorem dX12_isParted_124 : decode cX12_isParted 124 = .ok (.iastore, 1) := by decide +kernel
theorem dX12_isParted_125 : decode cX12_isParted 125 = .ok (.aload_n 0, 1) := by decide +kernel
theorem dX12_isParted_126 : decode cX12_isParted 126 = .ok (.getfield 62, 3) := by decide +kernel
theorem dX12_isParted_129 : decode cX12_isParted 129 = .ok (.iconst 0, 1) := by decide +kernel
theorem dX12_isParted_130 : decode cX12_isParted 130 = .ok (.iload_n 1, 1) := by decide +kernel
theorem dX12_isParted_131 : decode cX12_isParted 131 = .ok (.iload_n 3, 1) := by decide +kernel
theorem dX12_isParted_132 : decode cX12_isParted 132 = .ok (.invokestatic 319, 3) := by decide +kernel
theorem dX12_isParted_135 : decode cX12_isParted 135 = .ok (.iconst 0, 1) := by decide +kernel
theorem dX12_isParted_136 : decode cX12_isParted 136 = .ok (.iastore, 1) := by decide +kernel
theorem dX12_isParted_137 : decode cX12_isParted 137 = .ok (.iinc 3 1, 3) := by decide +kernel
theorem dX12_isParted_140 : decode cX12_isParted 140 = .ok (.goto (-82), 3) := by decide +kernel
theorem dX12_isParted_143 : decode cX12_isParted 143 = .ok (.aload_n 0, 1) := by decide +kernel
theorem dX12_isParted_144 : decode cX12_isParted 144 = .ok (.getfield 62, 3) := by decide +kernel
theorem dX12_isParted_147 : decode cX12_isParted 147 = .ok (.sipush 168, 3) := by decide +kernel
theorem dX12_isParted_150 : decode cX12_isParted 150 = .ok (.iload_n 1, 1) := by decide +kernel
theorem dX12_isParted_151 : decode cX12_isParted 151 = .ok (.iadd, 1) := by decide +kernel
theorem dX12_isParted_152 : decode cX12_isParted 152 = .ok (.dup2, 1) := by decide +kernel
theorem dX12_isParted_153 : decode cX12_isParted 153 = .ok (.iaload, 1) := by decide +kernel
theorem dX12_isParted_154 : decode cX12_isParted 154 = .ok (.iconst 1, 1) := by decide +kernel
theorem dX12_isParted_155 : decode cX12_isParted 155 = .ok (.iadd, 1) := by decide +kernel
theorem dX12_isParted_156 : decode cX12_isParted 156 = .ok (.iastore, 1) := by decide +kernel
theorem dX12_isParted_157 : decode cX12_isParted 157 = .ok (.iconst 1, 1) := by decide +kernel
theorem dX12_isParted_158 : decode cX12_isParted 158 = .ok (.ireturn, 1) := by decide +kernel
theorem dX12_may_0 : decode cX12_may 0 = .ok (.iload_n 1, 1) := by decide +kernel
theorem dX12_may_1 : decode cX12_may 1 = .ok (.ifCond .ne 25, 3) := by decide +kernel
theorem dX12_may_4 : decode cX12_may 4 = .ok (.aload_n 0, 1) := by decide +kernel
theorem dX12_may_5 : decode cX12_may 5 = .ok (.getfield 3, 3) := by decide +kernel
theorem dX12_may_8 : decode cX12_may 8 = .ok (.ifCond .ne 18, 3) := by decide +kernel
theorem dX12_may_11 : decode cX12_may 11 = .ok (.aload_n 0, 1) := by decide +kernel
theorem dX12_may_12 : decode cX12_may 12 = .ok (.iload_n 2, 1) := by decide +kernel
theorem dX12_may_13 : decode cX12_may 13 = .ok (.putfield 3, 3) := by decide +kernel
theorem dX12_may_16 : decode cX12_may 16 = .ok (.aload_n 0, 1) := by decide +kernel
theorem dX12_may_17 : decode cX12_may 17 = .ok (.getfield 7, 3) := by decide +kernel
theorem dX12_may_20 : decode cX12_may 20 = .ok (.iload_n 3, 1) := by decide +kernel
theorem dX12_may_21 : decode cX12_may 21 = .ok (.dup2, 1) := by decide +kernel
theorem dX12_may_22 : decode cX12_may 22 = .ok (.iaload, 1) := by decide +kernel
theorem dX12_may_23 : decode cX12_may 23 = .ok (.iconst 1, 1) := by decide +kernel
theorem dX12_may_24 : decode cX12_may 24 = .ok (.iadd, 1) := by decide +kernel
theorem dX12_may_25 : decode cX12_may 25 = .ok (.iastore, 1) := by decide +kernel
theorem dX12_may_26 : decode cX12_may 26 = .ok (.aload_n 0, 1) := by decide +kernel
theorem dX12_may_27 : decode cX12_may 27 = .ok (.getfield 3, 3) := by decide +kernel
theorem dX12_may_30 : decode cX12_may 30 = .ok (.ifCond .ne 7, 3) := by decide +kernel
theorem dX12_may_33 : decode cX12_may 33 = .ok (.iconst 1, 1) := by decide +kernel
theorem dX12_may_34 : decode cX12_may 34 = .ok (.goto 4, 3) := by decide +kernel
theorem dX12_may_37 : decode cX12_may 37 = .ok (.iconst 0, 1) := by decide +kernel
theorem dX12_may_38 : decode cX12_may 38 = .ok (.ireturn, 1) := by decide +kernel
theorem dX12_isSwapped_0 : decode cX12_isSwapped 0 = .ok (.aload_n 0, 1) := by decide +kernel
theorem dX12_isSwapped_1 : decode cX12_isSwapped 1 = .ok (.getfield 62, 3) := by decide +kernel
theorem dX12_isSwapped_4 : decode cX12_isSwapped 4 = .ok (.iconst 0, 1) := by decide +kernel
theorem dX12_isSwapped_5 : decode cX12_isSwapped 5 = .ok (.iload_n 1, 1) := by decide +kernel
theorem dX12_isSwapped_6 : decode cX12_isSwapped 6 = .ok (.iload_n 3, 1) := by decide +kernel
theorem dX12_isSwapped_7 : decode cX12_isSwapped 7 = .ok (.invokestatic 319, 3) := by decide +kernel
theorem dX12_isSwapped_10 : decode cX12_isSwapped 10 = .ok (.iaload, 1) := by decide +kernel
theorem dX12_isSwapped_11 : decode cX12_isSwapped 11 = .ok (.istore 4, 2) := by decide +kernel
theorem dX12_isSwapped_13 : decode cX12_isSwapped 13 = .ok (.iload_n 1, 1) := by decide +kernel
theorem dX12_isSwapped_14 : decode cX12_isSwapped 14 = .ok (.iload_n 2, 1) := by decide +kernel
theorem dX12_isSwapped_15 : decode cX12_isSwapped 15 = .ok (.if_icmp .eq 19, 3) := by decide +kernel
theorem dX12_isSwapped_18 : decode cX12_isSwapped 18 = .ok (.iload 4, 2) := by decide +kernel
theorem dX12_isSwapped_20 : decode cX12_isSwapped 20 = .ok (.aload_n 0, 1) := by decide +kernel
theorem dX12_isSwapped_21 : decode cX12_isSwapped 21 = .ok (.getfield 62, 3) := by decide +kernel
theorem dX12_isSwapped_24 : decode cX12_isSwapped 24 = .ok (.iconst 0, 1) := by decide +kernel
theorem dX12_isSwapped_25 : decode cX12_isSwapped 25 = .ok (.iload_n 2, 1) := by decide +kernel
theorem dX12_isSwapped_26 : decode cX12_isSwapped 26 = .ok (.iload_n 3, 1) := by decide +kernel
theorem dX12_isSwapped_27 : decode cX12_isSwapped 27 = .ok (.invokestatic 319, 3) := by decide +kernel
theorem dX12_isSwapped_30 : decode cX12_isSwapped 30 = .ok (.iaload, 1) := by decide +kernel
theorem dX12_isSwapped_31 : decode cX12_isSwapped 31 = .ok (.if_icmp .ne 5, 3) := by decide +kernel
theorem dX12_isSwapped_34 : decode cX12_isSwapped 34 = .ok (.iconst 0, 1) := by decide +kernel
theorem dX12_isSwapped_35 : decode cX12_isSwapped 35 = .ok (.ireturn, 1) := by decide +kernel
theorem dX12_isSwapped_36 : decode cX12_isSwapped 36 = .ok (.aload_n 0, 1) := by decide +kernel
theorem dX12_isSwapped_37 : decode cX12_isSwapped 37 = .ok (.getfield 62, 3) := by decide +kernel
theorem dX12_isSwapped_40 : decode cX12_isSwapped 40 = .ok (.iconst 0, 1) := by decide +kernel
theorem dX12_isSwapped_41 : decode cX12_isSwapped 41 = .ok (.iload_n 1, 1) := by decide +kernel
theorem dX12_isSwapped_42 : decode cX12_isSwapped 42 = .ok (.iload_n 3, 1) := by decide +kernel
theorem dX12_isSwapped_43 : decode cX12_isSwapped 43 = .ok (.invokestatic 319, 3) := by decide +kernel
theorem dX12_isSwapped_46 : decode cX12_isSwapped 46 = .ok (.aload_n 0, 1) := by decide +kernel
theorem dX12_isSwapped_47 : decode cX12_isSwapped 47 = .ok (.getfield 62, 3) := by decide +kernel
theorem dX12_isSwapped_50 : decode cX12_isSwapped 50 = .ok (.iconst 0, 1) := by decide +kernel
theorem dX12_isSwapped_51 : decode cX12_isSwapped 51 = .ok (.iload_n 2, 1) := by decide +kernel
theorem dX12_isSwapped_52 : decode cX12_isSwapped 52 = .ok (.iload_n 3, 1) := by decide +kernel
theorem dX12_isSwapped_53 : decode cX12_isSwapped 53 = .ok (.invokestatic 319, 3) := by decide +kernel
theorem dX12_isSwapped_56 : decode cX12_isSwapped 56 = .ok (.iaload, 1) := by decide +kernel
theorem dX12_isSwapped_57 : decode cX12_isSwapped 57 = .ok (.iastore, 1) := by decide +kernel
theorem dX12_isSwapped_58 : decode cX12_isSwapped 58 = .ok (.aload_n 0, 1) := by decide +kernel
theorem dX12_isSwapped_59 : decode cX12_isSwapped 59 = .ok (.getfield 62, 3) := by decide +kernel
theorem dX12_isSwapped_62 : decode cX12_isSwapped 62 = .ok (.iconst 0, 1) := by decide +kernel
theorem dX12_isSwapped_63 : decode cX12_isSwapped 63 = .ok (.iload_n 2, 1) := by decide +kernel
theorem dX12_isSwapped_64 : decode cX12_isSwapped 64 = .ok (.iload_n 3, 1) := by decide +kernel
theorem dX12_isSwapped_65 : decode cX12_isSwapped 65 = .ok (.invokestatic 319, 3) := by decide +kernel
theorem dX12_isSwapped_68 : decode cX12_isSwapped 68 = .ok (.iload 4, 2) := by decide +kernel
theorem dX12_isSwapped_70 : decode cX12_isSwapped 70 = .ok (.iastore, 1) := by decide +kernel
theorem dX12_isSwapped_71 : decode cX12_isSwapped 71 = .ok (.iconst 1, 1) := by decide +kernel
theorem dX12_isSwapped_72 : decode cX12_isSwapped 72 = .ok (.ireturn, 1) := by decide +kernel
theorem dX12_book_0 : decode cX12_book 0 = .ok (.aload_n 0, 1) := by decide +kernel
theorem dX12_book_1 : decode cX12_book 1 = .ok (.iconst 0, 1) := by decide +kernel
theorem dX12_book_2 : decode cX12_book 2 = .ok (.putfield 3, 3) := by decide +kernel
theorem dX12_book_5 : decode cX12_book 5 = .ok (.aload_n 0, 1) := by decide +kernel
theorem dX12_book_6 : decode cX12_book 6 = .ok (.iload_n 1, 1) := by decide +kernel
theorem dX12_book_7 : decode cX12_book 7 = .ok (.ifCond .lt 21, 3) := by decide +kernel
theorem dX12_book_10 : decode cX12_book 10 = .ok (.iload_n 1, 1) := by decide +kernel
theorem dX12_book_11 : decode cX12_book 11 = .ok (.aload_n 0, 1) := by decide +kernel
theorem dX12_book_12 : decode cX12_book 12 = .ok (.getfield 95, 3) := by decide +kernel
theorem dX12_book_15 : decode cX12_book 15 = .ok (.if_icmp .gt 13, 3) := by decide +kernel
theorem dX12_book_18 : decode cX12_book 18 = .ok (.iload_n 1, 1) := by decide +kernel
theorem dX12_book_19 : decode cX12_book 19 = .ok (.bipush 60, 2) := by decide +kernel
theorem dX12_book_21 : decode cX12_book 21 = .ok (.if_icmp .gt 7, 3) := by decide +kernel
theorem dX12_book_24 : decode cX12_book 24 = .ok (.iconst 1, 1) := by decide +kernel
theorem dX12_book_25 : decode cX12_book 25 = .ok (.goto 4, 3) := by decide +kernel
theorem dX12_book_28 : decode cX12_book 28 = .ok (.iconst 0, 1) := by decide +kernel
theorem dX12_book_29 : decode cX12_book 29 = .ok (.iconst 1, 1) := by decide +kernel
theorem dX12_book_30 : decode cX12_book 30 = .ok (.iconst 1, 1) := by decide +kernel
theorem dX12_book_31 : decode cX12_book 31 = .ok (.invokevirtual 190, 3) := by decide +kernel
theorem dX12_book_34 : decode cX12_book 34 = .ok (.ifCond .ne 5, 3) := by decide +kernel
theorem dX12_book_37 : decode cX12_book 37 = .ok (.iconst 0, 1) := by decide +kernel
theorem dX12_book_38 : decode cX12_book 38 = .ok (.ireturn, 1) := by decide +kernel
theorem dX12_book_39 : decode cX12_book 39 = .ok (.aload_n 0, 1) := by decide +kernel
theorem dX12_book_40 : decode cX12_book 40 = .ok (.iload_n 1, 1) := by decide +kernel
theorem dX12_book_41 : decode cX12_book 41 = .ok (.invokevirtual 194, 3) := by decide +kernel
theorem dX12_book_44 : decode cX12_book 44 = .ok (.iconst 0, 1) := by decide +kernel
theorem dX12_book_45 : decode cX12_book 45 = .ok (.istore_n 2, 1) := by decide +kernel
theorem dX12_book_46 : decode cX12_book 46 = .ok (.aload_n 0, 1) := by decide +kernel
theorem dX12_book_47 : decode cX12_book 47 = .ok (.invokevirtual 127, 3) := by decide +kernel
theorem dX12_book_50 : decode cX12_book 50 = .ok (.ifCond .eq 106, 3) := by decide +kernel
theorem dX12_book_53 : decode cX12_book 53 = .ok (.aload_n 0, 1) := by decide +kernel
theorem dX12_book_54 : decode cX12_book 54 = .ok (.invokevirtual 198, 3) := by decide +kernel
theorem dX12_book_57 : decode cX12_book 57 = .ok (.ifCond .eq 99, 3) := by decide +kernel
theorem dX12_book_60 : decode cX12_book 60 = .ok (.aload_n 0, 1) := by decide +kernel
theorem dX12_book_61 : decode cX12_book 61 = .ok (.invokevirtual 110, 3) := by decide +kernel
theorem dX12_book_64 : decode cX12_book 64 = .ok (.pop, 1) := by decide +kernel
theorem dX12_book_65 : decode cX12_book 65 = .ok (.aload_n 0, 1) := by decide +kernel
theorem dX12_book_66 : decode cX12_book 66 = .ok (.getfield 104, 3) := by decide +kernel
theorem dX12_book_69 : decode cX12_book 69 = .ok (.istore_n 3, 1) := by decide +kernel
theorem dX12_book_70 : decode cX12_book 70 = .ok (.aload_n 0, 1) := by decide +kernel
theorem dX12_book_71 : decode cX12_book 71 = .ok (.iconst 0, 1) := by decide +kernel
theorem dX12_book_72 : decode cX12_book 72 = .ok (.aload_n 0, 1) := by decide +kernel
theorem dX12_book_73 : decode cX12_book 73 = .ok (.getfield 156, 3) := by decide +kernel
theorem dX12_book_76 : decode cX12_book 76 = .ok (.iconst 1, 1) := by decide +kernel
theorem dX12_book_77 : decode cX12_book 77 = .ok (.isub, 1) := by decide +kernel
theorem dX12_book_78 : decode cX12_book 78 = .ok (.invokevirtual 186, 3) := by decide +kernel
theorem dX12_book_81 : decode cX12_book 81 = .ok (.istore 4, 2) := by decide +kernel
theorem dX12_book_83 : decode cX12_book 83 = .ok (.aload_n 0, 1) := by decide +kernel
theorem dX12_book_84 : decode cX12_book 84 = .ok (.invokevirtual 127, 3) := by decide +kernel
theorem dX12_book_87 : decode cX12_book 87 = .ok (.ifCond .eq 15, 3) := by decide +kernel
theorem dX12_book_90 : decode cX12_book 90 = .ok (.iload_n 2, 1) := by decide +kernel
theorem dX12_book_91 : decode cX12_book 91 = .ok (.bipush 8, 2) := by decide +kernel
theorem dX12_book_93 : decode cX12_book 93 = .ok (.if_icmp .ne 9, 3) := by decide +kernel
theorem dX12_book_96 : decode cX12_book 96 = .ok (.aload_n 0, 1) := by decide +kernel
theorem dX12_book_97 : decode cX12_book 97 = .ok (.iconst 3, 1) := by decide +kernel
theorem dX12_book_98 : decode cX12_book 98 = .ok (.iload_n 3, 1) := by decide +kernel
theorem dX12_book_99 : decode cX12_book 99 = .ok (.invokevirtual 134, 3) := by decide +kernel
theorem dX12_book_102 : decode cX12_book 102 = .ok (.aload_n 0, 1) := by decide +kernel
theorem dX12_book_103 : decode cX12_book 103 = .ok (.iconst 0, 1) := by decide +kernel
theorem dX12_book_104 : decode cX12_book 104 = .ok (.sipush 400, 3) := by decide +kernel
theorem dX12_book_107 : decode cX12_book 107 = .ok (.invokevirtual 186, 3) := by decide +kernel
theorem dX12_book_110 : decode cX12_book 110 = .ok (.istore 5, 2) := by decide +kernel
theorem dX12_book_112 : decode cX12_book 112 = .ok (.aload_n 0, 1) := by decide +kernel
theorem dX12_book_113 : decode cX12_book 113 = .ok (.bipush 59, 2) := by decide +kernel
theorem dX12_book_115 : decode cX12_book 115 = .ok (.invokevirtual 216, 3) := by decide +kernel
theorem dX12_book_118 : decode cX12_book 118 = .ok (.aload_n 0, 1) := by decide +kernel
theorem dX12_book_119 : decode cX12_book 119 = .ok (.invokevirtual 127, 3) := by decide +kernel
theorem dX12_book_122 : decode cX12_book 122 = .ok (.ifCond .ne 6, 3) := by decide +kernel
theorem dX12_book_125 : decode cX12_book 125 = .ok (.goto 31, 3) := by decide +kernel
theorem dX12_book_128 : decode cX12_book 128 = .ok (.aload_n 0, 1) := by decide +kernel
theorem dX12_book_129 : decode cX12_book 129 = .ok (.getfield 71, 3) := by decide +kernel
theorem dX12_book_132 : decode cX12_book 132 = .ok (.iconst 2, 1) := by decide +kernel
theorem dX12_book_133 : decode cX12_book 133 = .ok (.iload_n 2, 1) := by decide +kernel
theorem dX12_book_134 : decode cX12_book 134 = .ok (.imul, 1) := by decide +kernel
theorem dX12_book_135 : decode cX12_book 135 = .ok (.iload 4, 2) := by decide +kernel
theorem dX12_book_137 : decode cX12_book 137 = .ok (.iastore, 1) := by decide +kernel
theorem dX12_book_138 : decode cX12_book 138 = .ok (.aload_n 0, 1) := by decide +kernel
theorem dX12_book_139 : decode cX12_book 139 = .ok (.getfield 71, 3) := by decide +kernel
theorem dX12_book_142 : decode cX12_book 142 = .ok (.iconst 2, 1) := by decide +kernel
theorem dX12_book_143 : decode cX12_book 143 = .ok (.iload_n 2, 1) := by decide +kernel
theorem dX12_book_144 : decode cX12_book 144 = .ok (.imul, 1) := by decide +kernel
theorem dX12_book_145 : decode cX12_book 145 = .ok (.iconst 1, 1) := by decide +kernel
theorem dX12_book_146 : decode cX12_book 146 = .ok (.iadd, 1) := by decide +kernel
theorem dX12_book_147 : decode cX12_book 147 = .ok (.iload 5, 2) := by decide +kernel
theorem dX12_book_149 : decode cX12_book 149 = .ok (.iastore, 1) := by decide +kernel
theorem dX12_book_150 : decode cX12_book 150 = .ok (.iinc 2 1, 3) := by decide +kernel
theorem dX12_book_153 : decode cX12_book 153 = .ok (.goto (-107), 3) := by decide +kernel
theorem dX12_book_156 : decode cX12_book 156 = .ok (.aload_n 0, 1) := by decide +kernel
theorem dX12_book_157 : decode cX12_book 157 = .ok (.iload_n 2, 1) := by decide +kernel
theorem dX12_book_158 : decode cX12_book 158 = .ok (.invokevirtual 219, 3) := by decide +kernel
theorem dX12_book_161 : decode cX12_book 161 = .ok (.istore_n 3, 1) := by decide +kernel
theorem dX12_book_162 : decode cX12_book 162 = .ok (.aload_n 0, 1) := by decide +kernel
theorem dX12_book_163 : decode cX12_book 163 = .ok (.getfield 98, 3) := by decide +kernel
theorem dX12_book_166 : decode cX12_book 166 = .ok (.iconst (-1), 1) := by decide +kernel
theorem dX12_book_167 : decode cX12_book 167 = .ok (.if_icmp .eq 5, 3) := by decide +kernel
theorem dX12_book_170 : decode cX12_book 170 = .ok (.iload_n 3, 1) := by decide +kernel
theorem dX12_book_171 : decode cX12_book 171 = .ok (.ireturn, 1) := by decide +kernel
theorem dX12_book_172 : decode cX12_book 172 = .ok (.aload_n 0, 1) := by decide +kernel
theorem dX12_book_173 : decode cX12_book 173 = .ok (.iload_n 2, 1) := by decide +kernel
theorem dX12_book_174 : decode cX12_book 174 = .ok (.putfield 166, 3) := by decide +kernel
theorem dX12_book_177 : decode cX12_book 177 = .ok (.aload_n 0, 1) := by decide +kernel
theorem dX12_book_178 : decode cX12_book 178 = .ok (.aload_n 0, 1) := by decide +kernel
theorem dX12_book_179 : decode cX12_book 179 = .ok (.getfield 71, 3) := by decide +kernel
theorem dX12_book_182 : decode cX12_book 182 = .ok (.aload_n 0, 1) := by decide +kernel
theorem dX12_book_183 : decode cX12_book 183 = .ok (.getfield 74, 3) := by decide +kernel
theorem dX12_book_186 : decode cX12_book 186 = .ok (.bipush 16, 2) := by decide +kernel
theorem dX12_book_188 : decode cX12_book 188 = .ok (.invokevirtual 159, 3) := by decide +kernel
theorem dX12_book_191 : decode cX12_book 191 = .ok (.iload_n 3, 1) := by decide +kernel
theorem dX12_book_192 : decode cX12_book 192 = .ok (.ireturn, 1) := by decide +kernel
theorem dX12_in_0 : decode cX12_in 0 = .ok (.iload_n 0, 1) := by decide +kernel
theorem dX12_in_1 : decode cX12_in 1 = .ok (.bipush 7, 2) := by decide +kernel
theorem dX12_in_3 : decode cX12_in 3 = .ok (.iload_n 1, 1) := by decide +kernel
theorem dX12_in_4 : decode cX12_in 4 = .ok (.imul, 1) := by decide +kernel
theorem dX12_in_5 : decode cX12_in 5 = .ok (.iadd, 1) := by decide +kernel
theorem dX12_in_6 : decode cX12_in 6 = .ok (.iload_n 2, 1) := by decide +kernel
theorem dX12_in_7 : decode cX12_in 7 = .ok (.iadd, 1) := by decide +kernel
theorem dX12_in_8 : decode cX12_in 8 = .ok (.ireturn, 1) := by decide +kernel
theorem dX12_clears_0 : decode cX12_clears 0 = .ok (.aload_n 0, 1) := by decide +kernel
theorem dX12_clears_1 : decode cX12_clears 1 = .ok (.iconst 0, 1) := by decide +kernel
theorem dX12_clears_2 : decode cX12_clears 2 = .ok (.putfield 141, 3) := by decide +kernel
theorem dX12_clears_5 : decode cX12_clears 5 = .ok (.aload_n 0, 1) := by decide +kernel
theorem dX12_clears_6 : decode cX12_clears 6 = .ok (.iconst 0, 1) := by decide +kernel
theorem dX12_clears_7 : decode cX12_clears 7 = .ok (.putfield 144, 3) := by decide +kernel
theorem dX12_clears_10 : decode cX12_clears 10 = .ok (.aload_n 0, 1) := by decide +kernel
theorem dX12_clears_11 : decode cX12_clears 11 = .ok (.bipush 60, 2) := by decide +kernel
theorem dX12_clears_13 : decode cX12_clears 13 = .ok (.putfield 147, 3) := by decide +kernel
theorem dX12_clears_16 : decode cX12_clears 16 = .ok (.return_, 1) := by decide +kernel
theorem dX12_valueNow_0 : decode cX12_valueNow 0 = .ok (.iconst 0, 1) := by decide +kernel
theorem dX12_valueNow_1 : decode cX12_valueNow 1 = .ok (.istore_n 1, 1) := by decide +kernel
theorem dX12_valueNow_2 : decode cX12_valueNow 2 = .ok (.iconst 0, 1) := by decide +kernel
theorem dX12_valueNow_3 : decode cX12_valueNow 3 = .ok (.istore_n 2, 1) := by decide +kernel
theorem dX12_valueNow_4 : decode cX12_valueNow 4 = .ok (.iload_n 2, 1) := by decide +kernel
theorem dX12_valueNow_5 : decode cX12_valueNow 5 = .ok (.aload_n 0, 1) := by decide +kernel
theorem dX12_valueNow_6 : decode cX12_valueNow 6 = .ok (.getfield 163, 3) := by decide +kernel
theorem dX12_valueNow_9 : decode cX12_valueNow 9 = .ok (.if_icmp .ge 86, 3) := by decide +kernel
theorem dX12_valueNow_12 : decode cX12_valueNow 12 = .ok (.aload_n 0, 1) := by decide +kernel
theorem dX12_valueNow_13 : decode cX12_valueNow 13 = .ok (.getfield 41, 3) := by decide +kernel
theorem dX12_valueNow_16 : decode cX12_valueNow 16 = .ok (.iload_n 2, 1) := by decide +kernel
theorem dX12_valueNow_17 : decode cX12_valueNow 17 = .ok (.iaload, 1) := by decide +kernel
theorem dX12_valueNow_18 : decode cX12_valueNow 18 = .ok (.istore_n 3, 1) := by decide +kernel
theorem dX12_valueNow_19 : decode cX12_valueNow 19 = .ok (.iload_n 3, 1) := by decide +kernel
theorem dX12_valueNow_20 : decode cX12_valueNow 20 = .ok (.iconst 1, 1) := by decide +kernel
theorem dX12_valueNow_21 : decode cX12_valueNow 21 = .ok (.if_icmp .gt 39, 3) := by decide +kernel
theorem dX12_valueNow_24 : decode cX12_valueNow 24 = .ok (.aload_n 0, 1) := by decide +kernel
theorem dX12_valueNow_25 : decode cX12_valueNow 25 = .ok (.getfield 47, 3) := by decide +kernel
theorem dX12_valueNow_28 : decode cX12_valueNow 28 = .ok (.iload_n 1, 1) := by decide +kernel
theorem dX12_valueNow_29 : decode cX12_valueNow 29 = .ok (.iload_n 3, 1) := by decide +kernel
theorem dX12_valueNow_30 : decode cX12_valueNow 30 = .ok (.ifCond .ne 12, 3) := by decide +kernel
theorem dX12_valueNow_33 : decode cX12_valueNow 33 = .ok (.aload_n 0, 1) := by decide +kernel
theorem dX12_valueNow_34 : decode cX12_valueNow 34 = .ok (.getfield 44, 3) := by decide +kernel
theorem dX12_valueNow_37 : decode cX12_valueNow 37 = .ok (.iload_n 2, 1) := by decide +kernel
theorem dX12_valueNow_38 : decode cX12_valueNow 38 = .ok (.iaload, 1) := by decide +kernel
theorem dX12_valueNow_39 : decode cX12_valueNow 39 = .ok (.goto 14, 3) := by decide +kernel
theorem dX12_valueNow_42 : decode cX12_valueNow 42 = .ok (.aload_n 0, 1) := by decide +kernel
theorem dX12_valueNow_43 : decode cX12_valueNow 43 = .ok (.getfield 50, 3) := by decide +kernel
theorem dX12_valueNow_46 : decode cX12_valueNow 46 = .ok (.aload_n 0, 1) := by decide +kernel
theorem dX12_valueNow_47 : decode cX12_valueNow 47 = .ok (.getfield 44, 3) := by decide +kernel
theorem dX12_valueNow_50 : decode cX12_valueNow 50 = .ok (.iload_n 2, 1) := by decide +kernel
theorem dX12_valueNow_51 : decode cX12_valueNow 51 = .ok (.iaload, 1) := by decide +kernel
theorem dX12_valueNow_52 : decode cX12_valueNow 52 = .ok (.iaload, 1) := by decide +kernel
theorem dX12_valueNow_53 : decode cX12_valueNow 53 = .ok (.iastore, 1) := by decide +kernel
theorem dX12_valueNow_54 : decode cX12_valueNow 54 = .ok (.iinc 1 1, 3) := by decide +kernel
theorem dX12_valueNow_57 : decode cX12_valueNow 57 = .ok (.goto 32, 3) := by decide +kernel
theorem dX12_valueNow_60 : decode cX12_valueNow 60 = .ok (.iinc 1 (-1), 3) := by decide +kernel
theorem dX12_valueNow_63 : decode cX12_valueNow 63 = .ok (.aload_n 0, 1) := by decide +kernel
theorem dX12_valueNow_64 : decode cX12_valueNow 64 = .ok (.getfield 47, 3) := by decide +kernel
theorem dX12_valueNow_67 : decode cX12_valueNow 67 = .ok (.iload_n 1, 1) := by decide +kernel
theorem dX12_valueNow_68 : decode cX12_valueNow 68 = .ok (.iconst 1, 1) := by decide +kernel
theorem dX12_valueNow_69 : decode cX12_valueNow 69 = .ok (.isub, 1) := by decide +kernel
theorem dX12_valueNow_70 : decode cX12_valueNow 70 = .ok (.iload_n 3, 1) := by decide +kernel
theorem dX12_valueNow_71 : decode cX12_valueNow 71 = .ok (.aload_n 0, 1) := by decide +kernel
theorem dX12_valueNow_72 : decode cX12_valueNow 72 = .ok (.getfield 47, 3) := by decide +kernel
theorem dX12_valueNow_75 : decode cX12_valueNow 75 = .ok (.iload_n 1, 1) := by decide +kernel
theorem dX12_valueNow_76 : decode cX12_valueNow 76 = .ok (.iconst 1, 1) := by decide +kernel
theorem dX12_valueNow_77 : decode cX12_valueNow 77 = .ok (.isub, 1) := by decide +kernel
theorem dX12_valueNow_78 : decode cX12_valueNow 78 = .ok (.iaload, 1) := by decide +kernel
theorem dX12_valueNow_79 : decode cX12_valueNow 79 = .ok (.aload_n 0, 1) := by decide +kernel
theorem dX12_valueNow_80 : decode cX12_valueNow 80 = .ok (.getfield 47, 3) := by decide +kernel
theorem dX12_valueNow_83 : decode cX12_valueNow 83 = .ok (.iload_n 1, 1) := by decide +kernel
theorem dX12_valueNow_84 : decode cX12_valueNow 84 = .ok (.iaload, 1) := by decide +kernel
theorem dX12_valueNow_85 : decode cX12_valueNow 85 = .ok (.invokestatic 265, 3) := by decide +kernel
theorem dX12_valueNow_88 : decode cX12_valueNow 88 = .ok (.iastore, 1) := by decide +kernel
theorem dX12_valueNow_89 : decode cX12_valueNow 89 = .ok (.iinc 2 1, 3) := by decide +kernel
theorem dX12_valueNow_92 : decode cX12_valueNow 92 = .ok (.goto (-88), 3) := by decide +kernel
theorem dX12_valueNow_95 : decode cX12_valueNow 95 = .ok (.aload_n 0, 1) := by decide +kernel
theorem dX12_valueNow_96 : decode cX12_valueNow 96 = .ok (.getfield 47, 3) := by decide +kernel
theorem dX12_valueNow_99 : decode cX12_valueNow 99 = .ok (.iconst 0, 1) := by decide +kernel
theorem dX12_valueNow_100 : decode cX12_valueNow 100 = .ok (.iaload, 1) := by decide +kernel
theorem dX12_valueNow_101 : decode cX12_valueNow 101 = .ok (.ireturn, 1) := by decide +kernel
theorem dX12_sumOf_0 : decode cX12_sumOf 0 = .ok (.iconst 0, 1) := by decide +kernel
theorem dX12_sumOf_1 : decode cX12_sumOf 1 = .ok (.istore_n 3, 1) := by decide +kernel
theorem dX12_sumOf_2 : decode cX12_sumOf 2 = .ok (.iconst 0, 1) := by decide +kernel
theorem dX12_sumOf_3 : decode cX12_sumOf 3 = .ok (.istore 4, 2) := by decide +kernel
theorem dX12_sumOf_5 : decode cX12_sumOf 5 = .ok (.iload 4, 2) := by decide +kernel
theorem dX12_sumOf_7 : decode cX12_sumOf 7 = .ok (.iload_n 2, 1) := by decide +kernel
theorem dX12_sumOf_8 : decode cX12_sumOf 8 = .ok (.if_icmp .ge 21, 3) := by decide +kernel
theorem dX12_sumOf_11 : decode cX12_sumOf 11 = .ok (.iload_n 3, 1) := by decide +kernel
theorem dX12_sumOf_12 : decode cX12_sumOf 12 = .ok (.aload_n 0, 1) := by decide +kernel
theorem dX12_sumOf_13 : decode cX12_sumOf 13 = .ok (.getfield 62, 3) := by decide +kernel
theorem dX12_sumOf_16 : decode cX12_sumOf 16 = .ok (.iload_n 1, 1) := by decide +kernel
theorem dX12_sumOf_17 : decode cX12_sumOf 17 = .ok (.iload 4, 2) := by decide +kernel
theorem dX12_sumOf_19 : decode cX12_sumOf 19 = .ok (.iadd, 1) := by decide +kernel
theorem dX12_sumOf_20 : decode cX12_sumOf 20 = .ok (.iaload, 1) := by decide +kernel
theorem dX12_sumOf_21 : decode cX12_sumOf 21 = .ok (.iadd, 1) := by decide +kernel
theorem dX12_sumOf_22 : decode cX12_sumOf 22 = .ok (.istore_n 3, 1) := by decide +kernel
theorem dX12_sumOf_23 : decode cX12_sumOf 23 = .ok (.iinc 4 1, 3) := by decide +kernel
theorem dX12_sumOf_26 : decode cX12_sumOf 26 = .ok (.goto (-21), 3) := by decide +kernel
theorem dX12_sumOf_29 : decode cX12_sumOf 29 = .ok (.iload_n 3, 1) := by decide +kernel
theorem dX12_sumOf_30 : decode cX12_sumOf 30 = .ok (.ireturn, 1) := by decide +kernel
theorem dX12_opensOne_0 : decode cX12_opensOne 0 = .ok (.aload_n 0, 1) := by decide +kernel
theorem dX12_opensOne_1 : decode cX12_opensOne 1 = .ok (.invokevirtual 127, 3) := by decide +kernel
theorem dX12_opensOne_4 : decode cX12_opensOne 4 = .ok (.ifCond .eq 21, 3) := by decide +kernel
theorem dX12_opensOne_7 : decode cX12_opensOne 7 = .ok (.aload_n 0, 1) := by decide +kernel
theorem dX12_opensOne_8 : decode cX12_opensOne 8 = .ok (.getfield 138, 3) := by decide +kernel
theorem dX12_opensOne_11 : decode cX12_opensOne 11 = .ok (.bipush 6, 2) := by decide +kernel
theorem dX12_opensOne_13 : decode cX12_opensOne 13 = .ok (.if_icmp .ne 12, 3) := by decide +kernel
theorem dX12_opensOne_16 : decode cX12_opensOne 16 = .ok (.aload_n 0, 1) := by decide +kernel
theorem dX12_opensOne_17 : decode cX12_opensOne 17 = .ok (.iconst 3, 1) := by decide +kernel
theorem dX12_opensOne_18 : decode cX12_opensOne 18 = .ok (.aload_n 0, 1) := by decide +kernel
theorem dX12_opensOne_19 : decode cX12_opensOne 19 = .ok (.getfield 104, 3) := by decide +kernel
theorem dX12_opensOne_22 : decode cX12_opensOne 22 = .ok (.invokevirtual 134, 3) := by decide +kernel
theorem dX12_opensOne_25 : decode cX12_opensOne 25 = .ok (.aload_n 0, 1) := by decide +kernel
theorem dX12_opensOne_26 : decode cX12_opensOne 26 = .ok (.invokevirtual 127, 3) := by decide +kernel
theorem dX12_opensOne_29 : decode cX12_opensOne 29 = .ok (.ifCond .eq 13, 3) := by decide +kernel
theorem dX12_opensOne_32 : decode cX12_opensOne 32 = .ok (.aload_n 0, 1) := by decide +kernel
theorem dX12_opensOne_33 : decode cX12_opensOne 33 = .ok (.dup, 1) := by decide +kernel
theorem dX12_opensOne_34 : decode cX12_opensOne 34 = .ok (.getfield 104, 3) := by decide +kernel
theorem dX12_opensOne_37 : decode cX12_opensOne 37 = .ok (.iload_n 1, 1) := by decide +kernel
theorem dX12_opensOne_38 : decode cX12_opensOne 38 = .ok (.iadd, 1) := by decide +kernel
theorem dX12_opensOne_39 : decode cX12_opensOne 39 = .ok (.putfield 104, 3) := by decide +kernel
theorem dX12_opensOne_42 : decode cX12_opensOne 42 = .ok (.aload_n 0, 1) := by decide +kernel
theorem dX12_opensOne_43 : decode cX12_opensOne 43 = .ok (.dup, 1) := by decide +kernel
theorem dX12_opensOne_44 : decode cX12_opensOne 44 = .ok (.getfield 138, 3) := by decide +kernel
theorem dX12_opensOne_47 : decode cX12_opensOne 47 = .ok (.iconst 1, 1) := by decide +kernel
theorem dX12_opensOne_48 : decode cX12_opensOne 48 = .ok (.iadd, 1) := by decide +kernel
theorem dX12_opensOne_49 : decode cX12_opensOne 49 = .ok (.putfield 138, 3) := by decide +kernel
theorem dX12_opensOne_52 : decode cX12_opensOne 52 = .ok (.return_, 1) := by decide +kernel
theorem dX12_fine_0 : decode cX12_fine 0 = .ok (.aload_n 0, 1) := by decide +kernel
theorem dX12_fine_1 : decode cX12_fine 1 = .ok (.getfield 98, 3) := by decide +kernel
theorem dX12_fine_4 : decode cX12_fine 4 = .ok (.iconst (-1), 1) := by decide +kernel
theorem dX12_fine_5 : decode cX12_fine 5 = .ok (.if_icmp .ne 7, 3) := by decide +kernel
theorem dX12_fine_8 : decode cX12_fine 8 = .ok (.iconst 1, 1) := by decide +kernel
theorem dX12_fine_9 : decode cX12_fine 9 = .ok (.goto 4, 3) := by decide +kernel
theorem dX12_fine_12 : decode cX12_fine 12 = .ok (.iconst 0, 1) := by decide +kernel
theorem dX12_fine_13 : decode cX12_fine 13 = .ok (.ireturn, 1) := by decide +kernel
theorem dX12_scattered_0 : decode cX12_scattered 0 = .ok (.iconst 0, 1) := by decide +kernel
theorem dX12_scattered_1 : decode cX12_scattered 1 = .ok (.istore_n 1, 1) := by decide +kernel
theorem dX12_scattered_2 : decode cX12_scattered 2 = .ok (.iconst 0, 1) := by decide +kernel
theorem dX12_scattered_3 : decode cX12_scattered 3 = .ok (.istore_n 2, 1) := by decide +kernel
theorem dX12_scattered_4 : decode cX12_scattered 4 = .ok (.iload_n 2, 1) := by decide +kernel
theorem dX12_scattered_5 : decode cX12_scattered 5 = .ok (.aload_n 0, 1) := by decide +kernel
theorem dX12_scattered_6 : decode cX12_scattered 6 = .ok (.getfield 150, 3) := by decide +kernel
theorem dX12_scattered_9 : decode cX12_scattered 9 = .ok (.if_icmp .ge 27, 3) := by decide +kernel
theorem dX12_scattered_12 : decode cX12_scattered 12 = .ok (.iload_n 1, 1) := by decide +kernel
theorem dX12_scattered_13 : decode cX12_scattered 13 = .ok (.aload_n 0, 1) := by decide +kernel
theorem dX12_scattered_14 : decode cX12_scattered 14 = .ok (.iload_n 2, 1) := by decide +kernel
theorem dX12_scattered_15 : decode cX12_scattered 15 = .ok (.invokevirtual 365, 3) := by decide +kernel
theorem dX12_scattered_18 : decode cX12_scattered 18 = .ok (.ifCond .le 9, 3) := by decide +kernel
theorem dX12_scattered_21 : decode cX12_scattered 21 = .ok (.iconst 1, 1) := by decide +kernel
theorem dX12_scattered_22 : decode cX12_scattered 22 = .ok (.iload_n 2, 1) := by decide +kernel
theorem dX12_scattered_23 : decode cX12_scattered 23 = .ok (.ishl, 1) := by decide +kernel
theorem dX12_scattered_24 : decode cX12_scattered 24 = .ok (.goto 4, 3) := by decide +kernel
theorem dX12_scattered_27 : decode cX12_scattered 27 = .ok (.iconst 0, 1) := by decide +kernel
theorem dX12_scattered_28 : decode cX12_scattered 28 = .ok (.ior, 1) := by decide +kernel
theorem dX12_scattered_29 : decode cX12_scattered 29 = .ok (.istore_n 1, 1) := by decide +kernel
theorem dX12_scattered_30 : decode cX12_scattered 30 = .ok (.iinc 2 1, 3) := by decide +kernel
theorem dX12_scattered_33 : decode cX12_scattered 33 = .ok (.goto (-29), 3) := by decide +kernel
theorem dX12_scattered_36 : decode cX12_scattered 36 = .ok (.iload_n 1, 1) := by decide +kernel
theorem dX12_scattered_37 : decode cX12_scattered 37 = .ok (.ireturn, 1) := by decide +kernel
theorem dX12_whites_0 : decode cX12_whites 0 = .ok (.iconst 0, 1) := by decide +kernel
theorem dX12_whites_1 : decode cX12_whites 1 = .ok (.istore_n 1, 1) := by decide +kernel
theorem dX12_whites_2 : decode cX12_whites 2 = .ok (.iconst 0, 1) := by decide +kernel
theorem dX12_whites_3 : decode cX12_whites 3 = .ok (.istore_n 2, 1) := by decide +kernel
theorem dX12_whites_4 : decode cX12_whites 4 = .ok (.iload_n 2, 1) := by decide +kernel
theorem dX12_whites_5 : decode cX12_whites 5 = .ok (.aload_n 0, 1) := by decide +kernel
theorem dX12_whites_6 : decode cX12_whites 6 = .ok (.getfield 150, 3) := by decide +kernel
theorem dX12_whites_9 : decode cX12_whites 9 = .ok (.if_icmp .ge 27, 3) := by decide +kernel
theorem dX12_whites_12 : decode cX12_whites 12 = .ok (.iload_n 1, 1) := by decide +kernel
theorem dX12_whites_13 : decode cX12_whites 13 = .ok (.aload_n 0, 1) := by decide +kernel
theorem dX12_whites_14 : decode cX12_whites 14 = .ok (.iload_n 2, 1) := by decide +kernel
theorem dX12_whites_15 : decode cX12_whites 15 = .ok (.invokevirtual 362, 3) := by decide +kernel
theorem dX12_whites_18 : decode cX12_whites 18 = .ok (.ifCond .eq 9, 3) := by decide +kernel
theorem dX12_whites_21 : decode cX12_whites 21 = .ok (.iconst 1, 1) := by decide +kernel
theorem dX12_whites_22 : decode cX12_whites 22 = .ok (.iload_n 2, 1) := by decide +kernel
theorem dX12_whites_23 : decode cX12_whites 23 = .ok (.ishl, 1) := by decide +kernel
theorem dX12_whites_24 : decode cX12_whites 24 = .ok (.goto 4, 3) := by decide +kernel
theorem dX12_whites_27 : decode cX12_whites 27 = .ok (.iconst 0, 1) := by decide +kernel
theorem dX12_whites_28 : decode cX12_whites 28 = .ok (.ior, 1) := by decide +kernel
theorem dX12_whites_29 : decode cX12_whites 29 = .ok (.istore_n 1, 1) := by decide +kernel
theorem dX12_whites_30 : decode cX12_whites 30 = .ok (.iinc 2 1, 3) := by decide +kernel
theorem dX12_whites_33 : decode cX12_whites 33 = .ok (.goto (-29), 3) := by decide +kernel
theorem dX12_whites_36 : decode cX12_whites 36 = .ok (.iload_n 1, 1) := by decide +kernel
theorem dX12_whites_37 : decode cX12_whites 37 = .ok (.ireturn, 1) := by decide +kernel
theorem dX12_joinsAll_0 : decode cX12_joinsAll 0 = .ok (.aload_n 0, 1) := by decide +kernel
theorem dX12_joinsAll_1 : decode cX12_joinsAll 1 = .ok (.getfield 32, 3) := by decide +kernel
theorem dX12_joinsAll_4 : decode cX12_joinsAll 4 = .ok (.iconst 2, 1) := by decide +kernel
theorem dX12_joinsAll_5 : decode cX12_joinsAll 5 = .ok (.iload_n 1, 1) := by decide +kernel
theorem dX12_joinsAll_6 : decode cX12_joinsAll 6 = .ok (.imul, 1) := by decide +kernel
theorem dX12_joinsAll_7 : decode cX12_joinsAll 7 = .ok (.iconst 1, 1) := by decide +kernel
theorem dX12_joinsAll_8 : decode cX12_joinsAll 8 = .ok (.iadd, 1) := by decide +kernel
theorem dX12_joinsAll_9 : decode cX12_joinsAll 9 = .ok (.iaload, 1) := by decide +kernel
theorem dX12_joinsAll_10 : decode cX12_joinsAll 10 = .ok (.iconst 1, 1) := by decide +kernel
theorem dX12_joinsAll_11 : decode cX12_joinsAll 11 = .ok (.if_icmp .ne 7, 3) := by decide +kernel
theorem dX12_joinsAll_14 : decode cX12_joinsAll 14 = .ok (.iconst 1, 1) := by decide +kernel
theorem dX12_joinsAll_15 : decode cX12_joinsAll 15 = .ok (.goto 4, 3) := by decide +kernel
theorem dX12_joinsAll_18 : decode cX12_joinsAll 18 = .ok (.iconst 0, 1) := by decide +kernel
theorem dX12_joinsAll_19 : decode cX12_joinsAll 19 = .ok (.ireturn, 1) := by decide +kernel
theorem dX12_readNumber_0 : decode cX12_readNumber 0 = .ok (.aload_n 0, 1) := by decide +kernel
theorem dX12_readNumber_1 : decode cX12_readNumber 1 = .ok (.invokevirtual 127, 3) := by decide +kernel
theorem dX12_readNumber_4 : decode cX12_readNumber 4 = .ok (.ifCond .ne 5, 3) := by decide +kernel
theorem dX12_readNumber_7 : decode cX12_readNumber 7 = .ok (.iconst 0, 1) := by decide +kernel
theorem dX12_readNumber_8 : decode cX12_readNumber 8 = .ok (.ireturn, 1) := by decide +kernel
theorem dX12_readNumber_9 : decode cX12_readNumber 9 = .ok (.aload_n 0, 1) := by decide +kernel
theorem dX12_readNumber_10 : decode cX12_readNumber 10 = .ok (.invokevirtual 110, 3) := by decide +kernel
theorem dX12_readNumber_13 : decode cX12_readNumber 13 = .ok (.istore_n 3, 1) := by decide +kernel
theorem dX12_readNumber_14 : decode cX12_readNumber 14 = .ok (.aload_n 0, 1) := by decide +kernel
theorem dX12_readNumber_15 : decode cX12_readNumber 15 = .ok (.getfield 104, 3) := by decide +kernel
theorem dX12_readNumber_18 : decode cX12_readNumber 18 = .ok (.istore 4, 2) := by decide +kernel
theorem dX12_readNumber_20 : decode cX12_readNumber 20 = .ok (.iconst 0, 1) := by decide +kernel
theorem dX12_readNumber_21 : decode cX12_readNumber 21 = .ok (.istore 5, 2) := by decide +kernel
theorem dX12_readNumber_23 : decode cX12_readNumber 23 = .ok (.iload_n 3, 1) := by decide +kernel
theorem dX12_readNumber_24 : decode cX12_readNumber 24 = .ok (.invokestatic 131, 3) := by decide +kernel
theorem dX12_readNumber_27 : decode cX12_readNumber 27 = .ok (.ifCond .ne 14, 3) := by decide +kernel
theorem dX12_readNumber_30 : decode cX12_readNumber 30 = .ok (.aload_n 0, 1) := by decide +kernel
theorem dX12_readNumber_31 : decode cX12_readNumber 31 = .ok (.iconst 1, 1) := by decide +kernel
theorem dX12_readNumber_32 : decode cX12_readNumber 32 = .ok (.aload_n 0, 1) := by decide +kernel
theorem dX12_readNumber_33 : decode cX12_readNumber 33 = .ok (.getfield 104, 3) := by decide +kernel
theorem dX12_readNumber_36 : decode cX12_readNumber 36 = .ok (.invokevirtual 134, 3) := by decide +kernel
theorem dX12_readNumber_39 : decode cX12_readNumber 39 = .ok (.iconst 0, 1) := by decide +kernel
theorem dX12_readNumber_40 : decode cX12_readNumber 40 = .ok (.ireturn, 1) := by decide +kernel
theorem dX12_readNumber_41 : decode cX12_readNumber 41 = .ok (.aload_n 0, 1) := by decide +kernel
theorem dX12_readNumber_42 : decode cX12_readNumber 42 = .ok (.getfield 104, 3) := by decide +kernel
theorem dX12_readNumber_45 : decode cX12_readNumber 45 = .ok (.aload_n 0, 1) := by decide +kernel
theorem dX12_readNumber_46 : decode cX12_readNumber 46 = .ok (.getfield 107, 3) := by decide +kernel
theorem dX12_readNumber_49 : decode cX12_readNumber 49 = .ok (.if_icmp .ge 65, 3) := by decide +kernel
theorem dX12_readNumber_52 : decode cX12_readNumber 52 = .ok (.aload_n 0, 1) := by decide +kernel
theorem dX12_readNumber_53 : decode cX12_readNumber 53 = .ok (.getfield 20, 3) := by decide +kernel
theorem dX12_readNumber_56 : decode cX12_readNumber 56 = .ok (.aload_n 0, 1) := by decide +kernel
theorem dX12_readNumber_57 : decode cX12_readNumber 57 = .ok (.getfield 104, 3) := by decide +kernel
theorem dX12_readNumber_60 : decode cX12_readNumber 60 = .ok (.iaload, 1) := by decide +kernel
theorem dX12_readNumber_61 : decode cX12_readNumber 61 = .ok (.invokestatic 131, 3) := by decide +kernel
theorem dX12_readNumber_64 : decode cX12_readNumber 64 = .ok (.ifCond .eq 50, 3) := by decide +kernel
theorem dX12_readNumber_67 : decode cX12_readNumber 67 = .ok (.iload 5, 2) := by decide +kernel
theorem dX12_readNumber_69 : decode cX12_readNumber 69 = .ok (.sipush 9999, 3) := by decide +kernel
theorem dX12_readNumber_72 : decode cX12_readNumber 72 = .ok (.if_icmp .le 9, 3) := by decide +kernel
theorem dX12_readNumber_75 : decode cX12_readNumber 75 = .ok (.sipush 10000, 3) := by decide +kernel
theorem dX12_readNumber_78 : decode cX12_readNumber 78 = .ok (.goto 21, 3) := by decide +kernel
theorem dX12_readNumber_81 : decode cX12_readNumber 81 = .ok (.bipush 10, 2) := by decide +kernel
theorem dX12_readNumber_83 : decode cX12_readNumber 83 = .ok (.iload 5, 2) := by decide +kernel
theorem dX12_readNumber_85 : decode cX12_readNumber 85 = .ok (.imul, 1) := by decide +kernel
theorem dX12_readNumber_86 : decode cX12_readNumber 86 = .ok (.aload_n 0, 1) := by decide +kernel
theorem dX12_readNumber_87 : decode cX12_readNumber 87 = .ok (.getfield 20, 3) := by decide +kernel
theorem dX12_readNumber_90 : decode cX12_readNumber 90 = .ok (.aload_n 0, 1) := by decide +kernel
theorem dX12_readNumber_91 : decode cX12_readNumber 91 = .ok (.getfield 104, 3) := by decide +kernel
theorem dX12_readNumber_94 : decode cX12_readNumber 94 = .ok (.iaload, 1) := by decide +kernel
theorem dX12_readNumber_95 : decode cX12_readNumber 95 = .ok (.iadd, 1) := by decide +kernel
theorem dX12_readNumber_96 : decode cX12_readNumber 96 = .ok (.bipush 48, 2) := by decide +kernel
theorem dX12_readNumber_98 : decode cX12_readNumber 98 = .ok (.isub, 1) := by decide +kernel
theorem dX12_readNumber_99 : decode cX12_readNumber 99 = .ok (.istore 5, 2) := by decide +kernel
theorem dX12_readNumber_101 : decode cX12_readNumber 101 = .ok (.aload_n 0, 1) := by decide +kernel
theorem dX12_readNumber_102 : decode cX12_readNumber 102 = .ok (.dup, 1) := by decide +kernel
theorem dX12_readNumber_103 : decode cX12_readNumber 103 = .ok (.getfield 104, 3) := by decide +kernel
theorem dX12_readNumber_106 : decode cX12_readNumber 106 = .ok (.iconst 1, 1) := by decide +kernel
theorem dX12_readNumber_107 : decode cX12_readNumber 107 = .ok (.iadd, 1) := by decide +kernel
theorem dX12_readNumber_108 : decode cX12_readNumber 108 = .ok (.putfield 104, 3) := by decide +kernel
theorem dX12_readNumber_111 : decode cX12_readNumber 111 = .ok (.goto (-70), 3) := by decide +kernel
theorem dX12_readNumber_114 : decode cX12_readNumber 114 = .ok (.iload 5, 2) := by decide +kernel
theorem dX12_readNumber_116 : decode cX12_readNumber 116 = .ok (.iload_n 1, 1) := by decide +kernel
theorem dX12_readNumber_117 : decode cX12_readNumber 117 = .ok (.if_icmp .lt 9, 3) := by decide +kernel
theorem dX12_readNumber_120 : decode cX12_readNumber 120 = .ok (.iload 5, 2) := by decide +kernel
theorem dX12_readNumber_122 : decode cX12_readNumber 122 = .ok (.iload_n 2, 1) := by decide +kernel
theorem dX12_readNumber_123 : decode cX12_readNumber 123 = .ok (.if_icmp .le 12, 3) := by decide +kernel
theorem dX12_readNumber_126 : decode cX12_readNumber 126 = .ok (.aload_n 0, 1) := by decide +kernel
theorem dX12_readNumber_127 : decode cX12_readNumber 127 = .ok (.iconst 2, 1) := by decide +kernel
theorem dX12_readNumber_128 : decode cX12_readNumber 128 = .ok (.iload 4, 2) := by decide +kernel
theorem dX12_readNumber_130 : decode cX12_readNumber 130 = .ok (.invokevirtual 134, 3) := by decide +kernel
theorem dX12_readNumber_133 : decode cX12_readNumber 133 = .ok (.iconst 0, 1) := by decide +kernel
theorem dX12_readNumber_134 : decode cX12_readNumber 134 = .ok (.ireturn, 1) := by decide +kernel
theorem dX12_readNumber_135 : decode cX12_readNumber 135 = .ok (.iload 5, 2) := by decide +kernel
theorem dX12_readNumber_137 : decode cX12_readNumber 137 = .ok (.ireturn, 1) := by decide +kernel
theorem dX12_isJoined_0 : decode cX12_isJoined 0 = .ok (.aload_n 0, 1) := by decide +kernel
theorem dX12_isJoined_1 : decode cX12_isJoined 1 = .ok (.iload_n 1, 1) := by decide +kernel
theorem dX12_isJoined_2 : decode cX12_isJoined 2 = .ok (.iload_n 2, 1) := by decide +kernel
theorem dX12_isJoined_3 : decode cX12_isJoined 3 = .ok (.invokevirtual 342, 3) := by decide +kernel
theorem dX12_isJoined_6 : decode cX12_isJoined 6 = .ok (.istore_n 3, 1) := by decide +kernel
theorem dX12_isJoined_7 : decode cX12_isJoined 7 = .ok (.iconst 0, 1) := by decide +kernel
theorem dX12_isJoined_8 : decode cX12_isJoined 8 = .ok (.istore 4, 2) := by decide +kernel
theorem dX12_isJoined_10 : decode cX12_isJoined 10 = .ok (.iload 4, 2) := by decide +kernel
theorem dX12_isJoined_12 : decode cX12_isJoined 12 = .ok (.bipush 7, 2) := by decide +kernel
theorem dX12_isJoined_14 : decode cX12_isJoined 14 = .ok (.if_icmp .ge 63, 3) := by decide +kernel
theorem dX12_isJoined_17 : decode cX12_isJoined 17 = .ok (.iload_n 3, 1) := by decide +kernel
theorem dX12_isJoined_18 : decode cX12_isJoined 18 = .ok (.iload 4, 2) := by decide +kernel
theorem dX12_isJoined_20 : decode cX12_isJoined 20 = .ok (.ishr, 1) := by decide +kernel
theorem dX12_isJoined_21 : decode cX12_isJoined 21 = .ok (.iconst 1, 1) := by decide +kernel
theorem dX12_isJoined_22 : decode cX12_isJoined 22 = .ok (.iand, 1) := by decide +kernel
theorem dX12_isJoined_23 : decode cX12_isJoined 23 = .ok (.ifCond .ne 6, 3) := by decide +kernel
theorem dX12_isJoined_26 : decode cX12_isJoined 26 = .ok (.goto 45, 3) := by decide +kernel
theorem dX12_isJoined_29 : decode cX12_isJoined 29 = .ok (.aload_n 0, 1) := by decide +kernel
theorem dX12_isJoined_30 : decode cX12_isJoined 30 = .ok (.getfield 62, 3) := by decide +kernel
theorem dX12_isJoined_33 : decode cX12_isJoined 33 = .ok (.iconst 0, 1) := by decide +kernel
theorem dX12_isJoined_34 : decode cX12_isJoined 34 = .ok (.iload_n 1, 1) := by decide +kernel
theorem dX12_isJoined_35 : decode cX12_isJoined 35 = .ok (.iload 4, 2) := by decide +kernel
theorem dX12_isJoined_37 : decode cX12_isJoined 37 = .ok (.invokestatic 319, 3) := by decide +kernel
theorem dX12_isJoined_40 : decode cX12_isJoined 40 = .ok (.dup2, 1) := by decide +kernel
theorem dX12_isJoined_41 : decode cX12_isJoined 41 = .ok (.iaload, 1) := by decide +kernel
theorem dX12_isJoined_42 : decode cX12_isJoined 42 = .ok (.aload_n 0, 1) := by decide +kernel
theorem dX12_isJoined_43 : decode cX12_isJoined 43 = .ok (.getfield 62, 3) := by decide +kernel
theorem dX12_isJoined_46 : decode cX12_isJoined 46 = .ok (.bipush 42, 2) := by decide +kernel
theorem dX12_isJoined_48 : decode cX12_isJoined 48 = .ok (.iload_n 1, 1) := by decide +kernel
theorem dX12_isJoined_49 : decode cX12_isJoined 49 = .ok (.iload 4, 2) := by decide +kernel
theorem dX12_isJoined_51 : decode cX12_isJoined 51 = .ok (.invokestatic 319, 3) := by decide +kernel
theorem dX12_isJoined_54 : decode cX12_isJoined 54 = .ok (.iaload, 1) := by decide +kernel
theorem dX12_isJoined_55 : decode cX12_isJoined 55 = .ok (.iadd, 1) := by decide +kernel
theorem dX12_isJoined_56 : decode cX12_isJoined 56 = .ok (.iastore, 1) := by decide +kernel
theorem dX12_isJoined_57 : decode cX12_isJoined 57 = .ok (.aload_n 0, 1) := by decide +kernel
theorem dX12_isJoined_58 : decode cX12_isJoined 58 = .ok (.getfield 62, 3) := by decide +kernel
theorem dX12_isJoined_61 : decode cX12_isJoined 61 = .ok (.bipush 42, 2) := by decide +kernel
theorem dX12_isJoined_63 : decode cX12_isJoined 63 = .ok (.iload_n 1, 1) := by decide +kernel
theorem dX12_isJoined_64 : decode cX12_isJoined 64 = .ok (.iload 4, 2) := by decide +kernel
theorem dX12_isJoined_66 : decode cX12_isJoined 66 = .ok (.invokestatic 319, 3) := by decide +kernel
theorem dX12_isJoined_69 : decode cX12_isJoined 69 = .ok (.iconst 0, 1) := by decide +kernel
theorem dX12_isJoined_70 : decode cX12_isJoined 70 = .ok (.iastore, 1) := by decide +kernel
theorem dX12_isJoined_71 : decode cX12_isJoined 71 = .ok (.iinc 4 1, 3) := by decide +kernel
theorem dX12_isJoined_74 : decode cX12_isJoined 74 = .ok (.goto (-64), 3) := by decide +kernel
theorem dX12_isJoined_77 : decode cX12_isJoined 77 = .ok (.iload_n 3, 1) := by decide +kernel
theorem dX12_isJoined_78 : decode cX12_isJoined 78 = .ok (.ifCond .eq 7, 3) := by decide +kernel
theorem dX12_isJoined_81 : decode cX12_isJoined 81 = .ok (.iconst 1, 1) := by decide +kernel
theorem dX12_isJoined_82 : decode cX12_isJoined 82 = .ok (.goto 4, 3) := by decide +kernel
theorem dX12_isJoined_85 : decode cX12_isJoined 85 = .ok (.iconst 0, 1) := by decide +kernel
theorem dX12_isJoined_86 : decode cX12_isJoined 86 = .ok (.ireturn, 1) := by decide +kernel
theorem dX12_fault_0 : decode cX12_fault 0 = .ok (.aload_n 0, 1) := by decide +kernel
theorem dX12_fault_1 : decode cX12_fault 1 = .ok (.iconst 0, 1) := by decide +kernel
theorem dX12_fault_2 : decode cX12_fault 2 = .ok (.putfield 3, 3) := by decide +kernel
theorem dX12_fault_5 : decode cX12_fault 5 = .ok (.aload_n 0, 1) := by decide +kernel
theorem dX12_fault_6 : decode cX12_fault 6 = .ok (.getfield 17, 3) := by decide +kernel
theorem dX12_fault_9 : decode cX12_fault 9 = .ok (.ireturn, 1) := by decide +kernel
theorem dX12_feed_0 : decode cX12_feed 0 = .ok (.aload_n 0, 1) := by decide +kernel
theorem dX12_feed_1 : decode cX12_feed 1 = .ok (.iconst 0, 1) := by decide +kernel
theorem dX12_feed_2 : decode cX12_feed 2 = .ok (.putfield 3, 3) := by decide +kernel
theorem dX12_feed_5 : decode cX12_feed 5 = .ok (.aload_n 0, 1) := by decide +kernel
theorem dX12_feed_6 : decode cX12_feed 6 = .ok (.getfield 95, 3) := by decide +kernel
theorem dX12_feed_9 : decode cX12_feed 9 = .ok (.bipush 20, 2) := by decide +kernel
theorem dX12_feed_11 : decode cX12_feed 11 = .ok (.iadd, 1) := by decide +kernel
theorem dX12_feed_12 : decode cX12_feed 12 = .ok (.sipush 600, 3) := by decide +kernel
theorem dX12_feed_15 : decode cX12_feed 15 = .ok (.if_icmp .le 5, 3) := by decide +kernel
theorem dX12_feed_18 : decode cX12_feed 18 = .ok (.iconst (-1), 1) := by decide +kernel
theorem dX12_feed_19 : decode cX12_feed 19 = .ok (.ireturn, 1) := by decide +kernel
theorem dX12_feed_20 : decode cX12_feed 20 = .ok (.iconst 0, 1) := by decide +kernel
theorem dX12_feed_21 : decode cX12_feed 21 = .ok (.istore 6, 2) := by decide +kernel
theorem dX12_feed_23 : decode cX12_feed 23 = .ok (.iload 6, 2) := by decide +kernel
theorem dX12_feed_25 : decode cX12_feed 25 = .ok (.bipush 20, 2) := by decide +kernel
theorem dX12_feed_27 : decode cX12_feed 27 = .ok (.if_icmp .ge 93, 3) := by decide +kernel
theorem dX12_feed_30 : decode cX12_feed 30 = .ok (.iload 6, 2) := by decide +kernel
theorem dX12_feed_32 : decode cX12_feed 32 = .ok (.iconst 4, 1) := by decide +kernel
theorem dX12_feed_33 : decode cX12_feed 33 = .ok (.if_icmp .ge 7, 3) := by decide +kernel
theorem dX12_feed_36 : decode cX12_feed 36 = .ok (.iload_n 1, 1) := by decide +kernel
theorem dX12_feed_37 : decode cX12_feed 37 = .ok (.goto 39, 3) := by decide +kernel
theorem dX12_feed_40 : decode cX12_feed 40 = .ok (.iload 6, 2) := by decide +kernel
theorem dX12_feed_42 : decode cX12_feed 42 = .ok (.bipush 8, 2) := by decide +kernel
theorem dX12_feed_44 : decode cX12_feed 44 = .ok (.if_icmp .ge 7, 3) := by decide +kernel
theorem dX12_feed_47 : decode cX12_feed 47 = .ok (.iload_n 2, 1) := by decide +kernel
theorem dX12_feed_48 : decode cX12_feed 48 = .ok (.goto 28, 3) := by decide +kernel
theorem dX12_feed_51 : decode cX12_feed 51 = .ok (.iload 6, 2) := by decide +kernel
theorem dX12_feed_53 : decode cX12_feed 53 = .ok (.bipush 12, 2) := by decide +kernel
theorem dX12_feed_55 : decode cX12_feed 55 = .ok (.if_icmp .ge 7, 3) := by decide +kernel
theorem dX12_feed_58 : decode cX12_feed 58 = .ok (.iload_n 3, 1) := by decide +kernel
theorem dX12_feed_59 : decode cX12_feed 59 = .ok (.goto 17, 3) := by decide +kernel
theorem dX12_feed_62 : decode cX12_feed 62 = .ok (.iload 6, 2) := by decide +kernel
theorem dX12_feed_64 : decode cX12_feed 64 = .ok (.bipush 16, 2) := by decide +kernel
theorem dX12_feed_66 : decode cX12_feed 66 = .ok (.if_icmp .ge 8, 3) := by decide +kernel
theorem dX12_feed_69 : decode cX12_feed 69 = .ok (.iload 4, 2) := by decide +kernel
theorem dX12_feed_71 : decode cX12_feed 71 = .ok (.goto 5, 3) := by decide +kernel
theorem dX12_feed_74 : decode cX12_feed 74 = .ok (.iload 5, 2) := by decide +kernel
theorem dX12_feed_76 : decode cX12_feed 76 = .ok (.istore 7, 2) := by decide +kernel
theorem dX12_feed_78 : decode cX12_feed 78 = .ok (.aload_n 0, 1) := by decide +kernel
theorem dX12_feed_79 : decode cX12_feed 79 = .ok (.getfield 20, 3) := by decide +kernel
theorem dX12_feed_82 : decode cX12_feed 82 = .ok (.aload_n 0, 1) := by decide +kernel
theorem dX12_feed_83 : decode cX12_feed 83 = .ok (.getfield 95, 3) := by decide +kernel
theorem dX12_feed_86 : decode cX12_feed 86 = .ok (.iload 7, 2) := by decide +kernel
theorem dX12_feed_88 : decode cX12_feed 88 = .ok (.bipush 24, 2) := by decide +kernel
theorem dX12_feed_90 : decode cX12_feed 90 = .ok (.bipush 8, 2) := by decide +kernel
theorem dX12_feed_92 : decode cX12_feed 92 = .ok (.iload 6, 2) := by decide +kernel
theorem dX12_feed_94 : decode cX12_feed 94 = .ok (.iconst 4, 1) := by decide +kernel
theorem dX12_feed_95 : decode cX12_feed 95 = .ok (.irem, 1) := by decide +kernel
theorem dX12_feed_96 : decode cX12_feed 96 = .ok (.imul, 1) := by decide +kernel
theorem dX12_feed_97 : decode cX12_feed 97 = .ok (.isub, 1) := by decide +kernel
theorem dX12_feed_98 : decode cX12_feed 98 = .ok (.ishr, 1) := by decide +kernel
theorem dX12_feed_99 : decode cX12_feed 99 = .ok (.sipush 255, 3) := by decide +kernel
theorem dX12_feed_102 : decode cX12_feed 102 = .ok (.iand, 1) := by decide +kernel
theorem dX12_feed_103 : decode cX12_feed 103 = .ok (.iastore, 1) := by decide +kernel
theorem dX12_feed_104 : decode cX12_feed 104 = .ok (.aload_n 0, 1) := by decide +kernel
theorem dX12_feed_105 : decode cX12_feed 105 = .ok (.dup, 1) := by decide +kernel
theorem dX12_feed_106 : decode cX12_feed 106 = .ok (.getfield 95, 3) := by decide +kernel
theorem dX12_feed_109 : decode cX12_feed 109 = .ok (.iconst 1, 1) := by decide +kernel
theorem dX12_feed_110 : decode cX12_feed 110 = .ok (.iadd, 1) := by decide +kernel
theorem dX12_feed_111 : decode cX12_feed 111 = .ok (.putfield 95, 3) := by decide +kernel
theorem dX12_feed_114 : decode cX12_feed 114 = .ok (.iinc 6 1, 3) := by decide +kernel
theorem dX12_feed_117 : decode cX12_feed 117 = .ok (.goto (-94), 3) := by decide +kernel
theorem dX12_feed_120 : decode cX12_feed 120 = .ok (.aload_n 0, 1) := by decide +kernel
theorem dX12_feed_121 : decode cX12_feed 121 = .ok (.getfield 95, 3) := by decide +kernel
theorem dX12_feed_124 : decode cX12_feed 124 = .ok (.ireturn, 1) := by decide +kernel
theorem dX12_both_0 : decode cX12_both 0 = .ok (.iload_n 0, 1) := by decide +kernel
theorem dX12_both_1 : decode cX12_both 1 = .ok (.iconst 2, 1) := by decide +kernel
theorem dX12_both_2 : decode cX12_both 2 = .ok (.if_icmp .ne 7, 3) := by decide +kernel
theorem dX12_both_5 : decode cX12_both 5 = .ok (.iload_n 1, 1) := by decide +kernel
theorem dX12_both_6 : decode cX12_both 6 = .ok (.iload_n 2, 1) := by decide +kernel
theorem dX12_both_7 : decode cX12_both 7 = .ok (.iadd, 1) := by decide +kernel
theorem dX12_both_8 : decode cX12_both 8 = .ok (.ireturn, 1) := by decide +kernel
theorem dX12_both_9 : decode cX12_both 9 = .ok (.iload_n 0, 1) := by decide +kernel
theorem dX12_both_10 : decode cX12_both 10 = .ok (.iconst 3, 1) := by decide +kernel
theorem dX12_both_11 : decode cX12_both 11 = .ok (.if_icmp .ne 7, 3) := by decide +kernel
theorem dX12_both_14 : decode cX12_both 14 = .ok (.iload_n 1, 1) := by decide +kernel
theorem dX12_both_15 : decode cX12_both 15 = .ok (.iload_n 2, 1) := by decide +kernel
theorem dX12_both_16 : decode cX12_both 16 = .ok (.isub, 1) := by decide +kernel
theorem dX12_both_17 : decode cX12_both 17 = .ok (.ireturn, 1) := by decide +kernel
theorem dX12_both_18 : decode cX12_both 18 = .ok (.iload_n 0, 1) := by decide +kernel
theorem dX12_both_19 : decode cX12_both 19 = .ok (.iconst 4, 1) := by decide +kernel
theorem dX12_both_20 : decode cX12_both 20 = .ok (.if_icmp .ne 7, 3) := by decide +kernel
theorem dX12_both_23 : decode cX12_both 23 = .ok (.iload_n 1, 1) := by decide +kernel
theorem dX12_both_24 : decode cX12_both 24 = .ok (.iload_n 2, 1) := by decide +kernel
theorem dX12_both_25 : decode cX12_both 25 = .ok (.imul, 1) := by decide +kernel
theorem dX12_both_26 : decode cX12_both 26 = .ok (.ireturn, 1) := by decide +kernel
theorem dX12_both_27 : decode cX12_both 27 = .ok (.iload_n 0, 1) := by decide +kernel
theorem dX12_both_28 : decode cX12_both 28 = .ok (.iconst 5, 1) := by decide +kernel
theorem dX12_both_29 : decode cX12_both 29 = .ok (.if_icmp .eq 9, 3) := by decide +kernel
theorem dX12_both_32 : decode cX12_both 32 = .ok (.iload_n 0, 1) := by decide +kernel
theorem dX12_both_33 : decode cX12_both 33 = .ok (.bipush 8, 2) := by decide +kernel
theorem dX12_both_35 : decode cX12_both 35 = .ok (.if_icmp .ne 26, 3) := by decide +kernel
theorem dX12_both_38 : decode cX12_both 38 = .ok (.iload_n 2, 1) := by decide +kernel
theorem dX12_both_39 : decode cX12_both 39 = .ok (.ifCond .ne 7, 3) := by decide +kernel
theorem dX12_both_42 : decode cX12_both 42 = .ok (.iconst 0, 1) := by decide +kernel
theorem dX12_both_43 : decode cX12_both 43 = .ok (.goto 17, 3) := by decide +kernel
theorem dX12_both_46 : decode cX12_both 46 = .ok (.iload_n 0, 1) := by decide +kernel
theorem dX12_both_47 : decode cX12_both 47 = .ok (.iconst 5, 1) := by decide +kernel
theorem dX12_both_48 : decode cX12_both 48 = .ok (.if_icmp .ne 9, 3) := by decide +kernel
theorem dX12_both_51 : decode cX12_both 51 = .ok (.iload_n 1, 1) := by decide +kernel
theorem dX12_both_52 : decode cX12_both 52 = .ok (.iload_n 2, 1) := by decide +kernel
theorem dX12_both_53 : decode cX12_both 53 = .ok (.idiv, 1) := by decide +kernel
theorem dX12_both_54 : decode cX12_both 54 = .ok (.goto 6, 3) := by decide +kernel
theorem dX12_both_57 : decode cX12_both 57 = .ok (.iload_n 1, 1) := by decide +kernel
theorem dX12_both_58 : decode cX12_both 58 = .ok (.iload_n 2, 1) := by decide +kernel
theorem dX12_both_59 : decode cX12_both 59 = .ok (.irem, 1) := by decide +kernel
theorem dX12_both_60 : decode cX12_both 60 = .ok (.ireturn, 1) := by decide +kernel
theorem dX12_both_61 : decode cX12_both 61 = .ok (.iload_n 1, 1) := by decide +kernel
theorem dX12_both_62 : decode cX12_both 62 = .ok (.iload_n 2, 1) := by decide +kernel
theorem dX12_both_63 : decode cX12_both 63 = .ok (.if_icmp .ge 7, 3) := by decide +kernel
theorem dX12_both_66 : decode cX12_both 66 = .ok (.iconst 1, 1) := by decide +kernel
theorem dX12_both_67 : decode cX12_both 67 = .ok (.goto 4, 3) := by decide +kernel
theorem dX12_both_70 : decode cX12_both 70 = .ok (.iconst 0, 1) := by decide +kernel
theorem dX12_both_71 : decode cX12_both 71 = .ok (.iload_n 0, 1) := by decide +kernel
theorem dX12_both_72 : decode cX12_both 72 = .ok (.bipush 6, 2) := by decide +kernel
theorem dX12_both_74 : decode cX12_both 74 = .ok (.if_icmp .ne 7, 3) := by decide +kernel
theorem dX12_both_77 : decode cX12_both 77 = .ok (.iconst 1, 1) := by decide +kernel
theorem dX12_both_78 : decode cX12_both 78 = .ok (.goto 4, 3) := by decide +kernel
theorem dX12_both_81 : decode cX12_both 81 = .ok (.iconst 0, 1) := by decide +kernel
theorem dX12_both_82 : decode cX12_both 82 = .ok (.if_icmp .ne 7, 3) := by decide +kernel
theorem dX12_both_85 : decode cX12_both 85 = .ok (.iload_n 1, 1) := by decide +kernel
theorem dX12_both_86 : decode cX12_both 86 = .ok (.goto 4, 3) := by decide +kernel
theorem dX12_both_89 : decode cX12_both 89 = .ok (.iload_n 2, 1) := by decide +kernel
theorem dX12_both_90 : decode cX12_both 90 = .ok (.ireturn, 1) := by decide +kernel
theorem dX12_turnsOf_0 : decode cX12_turnsOf 0 = .ok (.aload_n 0, 1) := by decide +kernel
theorem dX12_turnsOf_1 : decode cX12_turnsOf 1 = .ok (.getfield 50, 3) := by decide +kernel
theorem dX12_turnsOf_4 : decode cX12_turnsOf 4 = .ok (.iconst 0, 1) := by decide +kernel
theorem dX12_turnsOf_5 : decode cX12_turnsOf 5 = .ok (.iload_n 1, 1) := by decide +kernel
theorem dX12_turnsOf_6 : decode cX12_turnsOf 6 = .ok (.iastore, 1) := by decide +kernel
theorem dX12_turnsOf_7 : decode cX12_turnsOf 7 = .ok (.aload_n 0, 1) := by decide +kernel
theorem dX12_turnsOf_8 : decode cX12_turnsOf 8 = .ok (.getfield 50, 3) := by decide +kernel
theorem dX12_turnsOf_11 : decode cX12_turnsOf 11 = .ok (.iconst 1, 1) := by decide +kernel
theorem dX12_turnsOf_12 : decode cX12_turnsOf 12 = .ok (.iload_n 2, 1) := by decide +kernel
theorem dX12_turnsOf_13 : decode cX12_turnsOf 13 = .ok (.iastore, 1) := by decide +kernel
theorem dX12_turnsOf_14 : decode cX12_turnsOf 14 = .ok (.aload_n 0, 1) := by decide +kernel
theorem dX12_turnsOf_15 : decode cX12_turnsOf 15 = .ok (.getfield 50, 3) := by decide +kernel
theorem dX12_turnsOf_18 : decode cX12_turnsOf 18 = .ok (.iconst 2, 1) := by decide +kernel
theorem dX12_turnsOf_19 : decode cX12_turnsOf 19 = .ok (.iload_n 3, 1) := by decide +kernel
theorem dX12_turnsOf_20 : decode cX12_turnsOf 20 = .ok (.iastore, 1) := by decide +kernel
theorem dX12_turnsOf_21 : decode cX12_turnsOf 21 = .ok (.aload_n 0, 1) := by decide +kernel
theorem dX12_turnsOf_22 : decode cX12_turnsOf 22 = .ok (.getfield 50, 3) := by decide +kernel
theorem dX12_turnsOf_25 : decode cX12_turnsOf 25 = .ok (.iconst 3, 1) := by decide +kernel
theorem dX12_turnsOf_26 : decode cX12_turnsOf 26 = .ok (.iload 4, 2) := by decide +kernel
theorem dX12_turnsOf_28 : decode cX12_turnsOf 28 = .ok (.iastore, 1) := by decide +kernel
theorem dX12_turnsOf_29 : decode cX12_turnsOf 29 = .ok (.aload_n 0, 1) := by decide +kernel
theorem dX12_turnsOf_30 : decode cX12_turnsOf 30 = .ok (.getfield 50, 3) := by decide +kernel
theorem dX12_turnsOf_33 : decode cX12_turnsOf 33 = .ok (.iconst 4, 1) := by decide +kernel
theorem dX12_turnsOf_34 : decode cX12_turnsOf 34 = .ok (.iload 5, 2) := by decide +kernel
theorem dX12_turnsOf_36 : decode cX12_turnsOf 36 = .ok (.iastore, 1) := by decide +kernel
theorem dX12_turnsOf_37 : decode cX12_turnsOf 37 = .ok (.aload_n 0, 1) := by decide +kernel
theorem dX12_turnsOf_38 : decode cX12_turnsOf 38 = .ok (.getfield 50, 3) := by decide +kernel
theorem dX12_turnsOf_41 : decode cX12_turnsOf 41 = .ok (.iconst 5, 1) := by decide +kernel
theorem dX12_turnsOf_42 : decode cX12_turnsOf 42 = .ok (.iload 6, 2) := by decide +kernel
theorem dX12_turnsOf_44 : decode cX12_turnsOf 44 = .ok (.iastore, 1) := by decide +kernel
theorem dX12_turnsOf_45 : decode cX12_turnsOf 45 = .ok (.aload_n 0, 1) := by decide +kernel
theorem dX12_turnsOf_46 : decode cX12_turnsOf 46 = .ok (.getfield 50, 3) := by decide +kernel
theorem dX12_turnsOf_49 : decode cX12_turnsOf 49 = .ok (.bipush 6, 2) := by decide +kernel
theorem dX12_turnsOf_51 : decode cX12_turnsOf 51 = .ok (.iload 7, 2) := by decide +kernel
theorem dX12_turnsOf_53 : decode cX12_turnsOf 53 = .ok (.iastore, 1) := by decide +kernel
theorem dX12_turnsOf_54 : decode cX12_turnsOf 54 = .ok (.aload_n 0, 1) := by decide +kernel
theorem dX12_turnsOf_55 : decode cX12_turnsOf 55 = .ok (.getfield 50, 3) := by decide +kernel
theorem dX12_turnsOf_58 : decode cX12_turnsOf 58 = .ok (.bipush 7, 2) := by decide +kernel
theorem dX12_turnsOf_60 : decode cX12_turnsOf 60 = .ok (.iload 8, 2) := by decide +kernel
theorem dX12_turnsOf_62 : decode cX12_turnsOf 62 = .ok (.iastore, 1) := by decide +kernel
theorem dX12_turnsOf_63 : decode cX12_turnsOf 63 = .ok (.aload_n 0, 1) := by decide +kernel
theorem dX12_turnsOf_64 : decode cX12_turnsOf 64 = .ok (.invokevirtual 325, 3) := by decide +kernel
theorem dX12_turnsOf_67 : decode cX12_turnsOf 67 = .ok (.ireturn, 1) := by decide +kernel
theorem dX12_isWhite_0 : decode cX12_isWhite 0 = .ok (.aload_n 0, 1) := by decide +kernel
theorem dX12_isWhite_1 : decode cX12_isWhite 1 = .ok (.getfield 62, 3) := by decide +kernel
theorem dX12_isWhite_4 : decode cX12_isWhite 4 = .ok (.iconst 0, 1) := by decide +kernel
theorem dX12_isWhite_5 : decode cX12_isWhite 5 = .ok (.iload_n 1, 1) := by decide +kernel
theorem dX12_isWhite_6 : decode cX12_isWhite 6 = .ok (.iconst 0, 1) := by decide +kernel
theorem dX12_isWhite_7 : decode cX12_isWhite 7 = .ok (.invokestatic 319, 3) := by decide +kernel
theorem dX12_isWhite_10 : decode cX12_isWhite 10 = .ok (.iaload, 1) := by decide +kernel
theorem dX12_isWhite_11 : decode cX12_isWhite 11 = .ok (.ifCond .le 7, 3) := by decide +kernel
theorem dX12_isWhite_14 : decode cX12_isWhite 14 = .ok (.iconst 1, 1) := by decide +kernel
theorem dX12_isWhite_15 : decode cX12_isWhite 15 = .ok (.goto 4, 3) := by decide +kernel
theorem dX12_isWhite_18 : decode cX12_isWhite 18 = .ok (.iconst 0, 1) := by decide +kernel
theorem dX12_isWhite_19 : decode cX12_isWhite 19 = .ok (.istore_n 2, 1) := by decide +kernel
theorem dX12_isWhite_20 : decode cX12_isWhite 20 = .ok (.iconst 1, 1) := by decide +kernel
theorem dX12_isWhite_21 : decode cX12_isWhite 21 = .ok (.istore_n 3, 1) := by decide +kernel
theorem dX12_isWhite_22 : decode cX12_isWhite 22 = .ok (.iload_n 3, 1) := by decide +kernel
theorem dX12_isWhite_23 : decode cX12_isWhite 23 = .ok (.bipush 7, 2) := by decide +kernel
theorem dX12_isWhite_25 : decode cX12_isWhite 25 = .ok (.if_icmp .ge 44, 3) := by decide +kernel
theorem dX12_isWhite_28 : decode cX12_isWhite 28 = .ok (.iload_n 2, 1) := by decide +kernel
theorem dX12_isWhite_29 : decode cX12_isWhite 29 = .ok (.ifCond .eq 32, 3) := by decide +kernel
theorem dX12_isWhite_32 : decode cX12_isWhite 32 = .ok (.aload_n 0, 1) := by decide +kernel
theorem dX12_isWhite_33 : decode cX12_isWhite 33 = .ok (.getfield 62, 3) := by decide +kernel
theorem dX12_isWhite_36 : decode cX12_isWhite 36 = .ok (.iconst 0, 1) := by decide +kernel
theorem dX12_isWhite_37 : decode cX12_isWhite 37 = .ok (.iload_n 1, 1) := by decide +kernel
theorem dX12_isWhite_38 : decode cX12_isWhite 38 = .ok (.iload_n 3, 1) := by decide +kernel
theorem dX12_isWhite_39 : decode cX12_isWhite 39 = .ok (.invokestatic 319, 3) := by decide +kernel
theorem dX12_isWhite_42 : decode cX12_isWhite 42 = .ok (.iaload, 1) := by decide +kernel
theorem dX12_isWhite_43 : decode cX12_isWhite 43 = .ok (.aload_n 0, 1) := by decide +kernel
theorem dX12_isWhite_44 : decode cX12_isWhite 44 = .ok (.getfield 62, 3) := by decide +kernel
theorem dX12_isWhite_47 : decode cX12_isWhite 47 = .ok (.iconst 0, 1) := by decide +kernel
theorem dX12_isWhite_48 : decode cX12_isWhite 48 = .ok (.iload_n 1, 1) := by decide +kernel
theorem dX12_isWhite_49 : decode cX12_isWhite 49 = .ok (.iconst 0, 1) := by decide +kernel
theorem dX12_isWhite_50 : decode cX12_isWhite 50 = .ok (.invokestatic 319, 3) := by decide +kernel
theorem dX12_isWhite_53 : decode cX12_isWhite 53 = .ok (.iaload, 1) := by decide +kernel
theorem dX12_isWhite_54 : decode cX12_isWhite 54 = .ok (.if_icmp .ne 7, 3) := by decide +kernel
theorem dX12_isWhite_57 : decode cX12_isWhite 57 = .ok (.iconst 1, 1) := by decide +kernel
theorem dX12_isWhite_58 : decode cX12_isWhite 58 = .ok (.goto 4, 3) := by decide +kernel
theorem dX12_isWhite_61 : decode cX12_isWhite 61 = .ok (.iconst 0, 1) := by decide +kernel
theorem dX12_isWhite_62 : decode cX12_isWhite 62 = .ok (.istore_n 2, 1) := by decide +kernel
theorem dX12_isWhite_63 : decode cX12_isWhite 63 = .ok (.iinc 3 1, 3) := by decide +kernel
theorem dX12_isWhite_66 : decode cX12_isWhite 66 = .ok (.goto (-44), 3) := by decide +kernel
theorem dX12_isWhite_69 : decode cX12_isWhite 69 = .ok (.iload_n 2, 1) := by decide +kernel
theorem dX12_isWhite_70 : decode cX12_isWhite 70 = .ok (.ireturn, 1) := by decide +kernel
theorem dX12_turnsBy_0 : decode cX12_turnsBy 0 = .ok (.aload_n 0, 1) := by decide +kernel
theorem dX12_turnsBy_1 : decode cX12_turnsBy 1 = .ok (.iload_n 2, 1) := by decide +kernel
theorem dX12_turnsBy_2 : decode cX12_turnsBy 2 = .ok (.iload 4, 2) := by decide +kernel
theorem dX12_turnsBy_4 : decode cX12_turnsBy 4 = .ok (.aload_n 0, 1) := by decide +kernel
theorem dX12_turnsBy_5 : decode cX12_turnsBy 5 = .ok (.getfield 32, 3) := by decide +kernel
theorem dX12_turnsBy_8 : decode cX12_turnsBy 8 = .ok (.iconst 2, 1) := by decide +kernel
theorem dX12_turnsBy_9 : decode cX12_turnsBy 9 = .ok (.iload_n 3, 1) := by decide +kernel
theorem dX12_turnsBy_10 : decode cX12_turnsBy 10 = .ok (.imul, 1) := by decide +kernel
theorem dX12_turnsBy_11 : decode cX12_turnsBy 11 = .ok (.iaload, 1) := by decide +kernel
theorem dX12_turnsBy_12 : decode cX12_turnsBy 12 = .ok (.aload_n 0, 1) := by decide +kernel
theorem dX12_turnsBy_13 : decode cX12_turnsBy 13 = .ok (.iload_n 1, 1) := by decide +kernel
theorem dX12_turnsBy_14 : decode cX12_turnsBy 14 = .ok (.invokevirtual 328, 3) := by decide +kernel
theorem dX12_turnsBy_17 : decode cX12_turnsBy 17 = .ok (.aload_n 0, 1) := by decide +kernel
theorem dX12_turnsBy_18 : decode cX12_turnsBy 18 = .ok (.getfield 62, 3) := by decide +kernel
theorem dX12_turnsBy_21 : decode cX12_turnsBy 21 = .ok (.bipush 126, 2) := by decide +kernel
theorem dX12_turnsBy_23 : decode cX12_turnsBy 23 = .ok (.iload_n 1, 1) := by decide +kernel
theorem dX12_turnsBy_24 : decode cX12_turnsBy 24 = .ok (.iload_n 2, 1) := by decide +kernel
theorem dX12_turnsBy_25 : decode cX12_turnsBy 25 = .ok (.invokestatic 319, 3) := by decide +kernel
theorem dX12_turnsBy_28 : decode cX12_turnsBy 28 = .ok (.iaload, 1) := by decide +kernel
theorem dX12_turnsBy_29 : decode cX12_turnsBy 29 = .ok (.aload_n 0, 1) := by decide +kernel
theorem dX12_turnsBy_30 : decode cX12_turnsBy 30 = .ok (.getfield 62, 3) := by decide +kernel
theorem dX12_turnsBy_33 : decode cX12_turnsBy 33 = .ok (.sipush 168, 3) := by decide +kernel
theorem dX12_turnsBy_36 : decode cX12_turnsBy 36 = .ok (.iload_n 1, 1) := by decide +kernel
theorem dX12_turnsBy_37 : decode cX12_turnsBy 37 = .ok (.iadd, 1) := by decide +kernel
theorem dX12_turnsBy_38 : decode cX12_turnsBy 38 = .ok (.iaload, 1) := by decide +kernel
theorem dX12_turnsBy_39 : decode cX12_turnsBy 39 = .ok (.aload_n 0, 1) := by decide +kernel
theorem dX12_turnsBy_40 : decode cX12_turnsBy 40 = .ok (.getfield 62, 3) := by decide +kernel
theorem dX12_turnsBy_43 : decode cX12_turnsBy 43 = .ok (.sipush 174, 3) := by decide +kernel
theorem dX12_turnsBy_46 : decode cX12_turnsBy 46 = .ok (.iaload, 1) := by decide +kernel
theorem dX12_turnsBy_47 : decode cX12_turnsBy 47 = .ok (.iload_n 1, 1) := by decide +kernel
theorem dX12_turnsBy_48 : decode cX12_turnsBy 48 = .ok (.invokevirtual 331, 3) := by decide +kernel
theorem dX12_turnsBy_51 : decode cX12_turnsBy 51 = .ok (.ireturn, 1) := by decide +kernel
theorem dX12_pass_0 : decode cX12_pass 0 = .ok (.aload_n 0, 1) := by decide +kernel
theorem dX12_pass_1 : decode cX12_pass 1 = .ok (.getfield 104, 3) := by decide +kernel
theorem dX12_pass_4 : decode cX12_pass 4 = .ok (.aload_n 0, 1) := by decide +kernel
theorem dX12_pass_5 : decode cX12_pass 5 = .ok (.getfield 107, 3) := by decide +kernel
theorem dX12_pass_8 : decode cX12_pass 8 = .ok (.if_icmp .ge 31, 3) := by decide +kernel
theorem dX12_pass_11 : decode cX12_pass 11 = .ok (.aload_n 0, 1) := by decide +kernel
theorem dX12_pass_12 : decode cX12_pass 12 = .ok (.getfield 20, 3) := by decide +kernel
theorem dX12_pass_15 : decode cX12_pass 15 = .ok (.aload_n 0, 1) := by decide +kernel
theorem dX12_pass_16 : decode cX12_pass 16 = .ok (.getfield 104, 3) := by decide +kernel
theorem dX12_pass_19 : decode cX12_pass 19 = .ok (.iaload, 1) := by decide +kernel
theorem dX12_pass_20 : decode cX12_pass 20 = .ok (.invokestatic 114, 3) := by decide +kernel
theorem dX12_pass_23 : decode cX12_pass 23 = .ok (.ifCond .eq 16, 3) := by decide +kernel
theorem dX12_pass_26 : decode cX12_pass 26 = .ok (.aload_n 0, 1) := by decide +kernel
theorem dX12_pass_27 : decode cX12_pass 27 = .ok (.dup, 1) := by decide +kernel
theorem dX12_pass_28 : decode cX12_pass 28 = .ok (.getfield 104, 3) := by decide +kernel
theorem dX12_pass_31 : decode cX12_pass 31 = .ok (.iconst 1, 1) := by decide +kernel
theorem dX12_pass_32 : decode cX12_pass 32 = .ok (.iadd, 1) := by decide +kernel
theorem dX12_pass_33 : decode cX12_pass 33 = .ok (.putfield 104, 3) := by decide +kernel
theorem dX12_pass_36 : decode cX12_pass 36 = .ok (.goto (-36), 3) := by decide +kernel
theorem dX12_pass_39 : decode cX12_pass 39 = .ok (.return_, 1) := by decide +kernel
theorem dX12_isDigit_0 : decode cX12_isDigit 0 = .ok (.iload_n 0, 1) := by decide +kernel
theorem dX12_isDigit_1 : decode cX12_isDigit 1 = .ok (.bipush 48, 2) := by decide +kernel
theorem dX12_isDigit_3 : decode cX12_isDigit 3 = .ok (.if_icmp .lt 13, 3) := by decide +kernel
theorem dX12_isDigit_6 : decode cX12_isDigit 6 = .ok (.iload_n 0, 1) := by decide +kernel
theorem dX12_isDigit_7 : decode cX12_isDigit 7 = .ok (.bipush 57, 2) := by decide +kernel
theorem dX12_isDigit_9 : decode cX12_isDigit 9 = .ok (.if_icmp .gt 7, 3) := by decide +kernel
theorem dX12_isDigit_12 : decode cX12_isDigit 12 = .ok (.iconst 1, 1) := by decide +kernel
theorem dX12_isDigit_13 : decode cX12_isDigit 13 = .ok (.goto 4, 3) := by decide +kernel
theorem dX12_isDigit_16 : decode cX12_isDigit 16 = .ok (.iconst 0, 1) := by decide +kernel
theorem dX12_isDigit_17 : decode cX12_isDigit 17 = .ok (.ireturn, 1) := by decide +kernel
theorem dX12_result_0 : decode cX12_result 0 = .ok (.aload_n 0, 1) := by decide +kernel
theorem dX12_result_1 : decode cX12_result 1 = .ok (.aload_n 0, 1) := by decide +kernel
theorem dX12_result_2 : decode cX12_result 2 = .ok (.getfield 98, 3) := by decide +kernel
theorem dX12_result_5 : decode cX12_result 5 = .ok (.putfield 17, 3) := by decide +kernel
theorem dX12_result_8 : decode cX12_result 8 = .ok (.aload_n 0, 1) := by decide +kernel
theorem dX12_result_9 : decode cX12_result 9 = .ok (.invokevirtual 127, 3) := by decide +kernel
theorem dX12_result_12 : decode cX12_result 12 = .ok (.ifCond .eq 7, 3) := by decide +kernel
theorem dX12_result_15 : decode cX12_result 15 = .ok (.iload_n 1, 1) := by decide +kernel
theorem dX12_result_16 : decode cX12_result 16 = .ok (.goto 10, 3) := by decide +kernel
theorem dX12_result_19 : decode cX12_result 19 = .ok (.aload_n 0, 1) := by decide +kernel
theorem dX12_result_20 : decode cX12_result 20 = .ok (.getfield 101, 3) := by decide +kernel
theorem dX12_result_23 : decode cX12_result 23 = .ok (.bipush 10, 2) := by decide +kernel
theorem dX12_result_25 : decode cX12_result 25 = .ok (.isub, 1) := by decide +kernel
theorem dX12_result_26 : decode cX12_result 26 = .ok (.ireturn, 1) := by decide +kernel
theorem dX12_readFellow_0 : decode cX12_readFellow 0 = .ok (.aload_n 0, 1) := by decide +kernel
theorem dX12_readFellow_1 : decode cX12_readFellow 1 = .ok (.iconst 0, 1) := by decide +kernel
theorem dX12_readFellow_2 : decode cX12_readFellow 2 = .ok (.aload_n 0, 1) := by decide +kernel
theorem dX12_readFellow_3 : decode cX12_readFellow 3 = .ok (.getfield 150, 3) := by decide +kernel
theorem dX12_readFellow_6 : decode cX12_readFellow 6 = .ok (.iconst 1, 1) := by decide +kernel
theorem dX12_readFellow_7 : decode cX12_readFellow 7 = .ok (.isub, 1) := by decide +kernel
theorem dX12_readFellow_8 : decode cX12_readFellow 8 = .ok (.invokevirtual 186, 3) := by decide +kernel
theorem dX12_readFellow_11 : decode cX12_readFellow 11 = .ok (.ireturn, 1) := by decide +kernel
theorem dX12_copies_0 : decode cX12_copies 0 = .ok (.iconst 0, 1) := by decide +kernel
theorem dX12_copies_1 : decode cX12_copies 1 = .ok (.istore 4, 2) := by decide +kernel
theorem dX12_copies_3 : decode cX12_copies 3 = .ok (.iload 4, 2) := by decide +kernel
theorem dX12_copies_5 : decode cX12_copies 5 = .ok (.iload_n 3, 1) := by decide +kernel
theorem dX12_copies_6 : decode cX12_copies 6 = .ok (.if_icmp .ge 17, 3) := by decide +kernel
theorem dX12_copies_9 : decode cX12_copies 9 = .ok (.aload_n 2, 1) := by decide +kernel
theorem dX12_copies_10 : decode cX12_copies 10 = .ok (.iload 4, 2) := by decide +kernel
theorem dX12_copies_12 : decode cX12_copies 12 = .ok (.aload_n 1, 1) := by decide +kernel
theorem dX12_copies_13 : decode cX12_copies 13 = .ok (.iload 4, 2) := by decide +kernel
theorem dX12_copies_15 : decode cX12_copies 15 = .ok (.iaload, 1) := by decide +kernel
theorem dX12_copies_16 : decode cX12_copies 16 = .ok (.iastore, 1) := by decide +kernel
theorem dX12_copies_17 : decode cX12_copies 17 = .ok (.iinc 4 1, 3) := by decide +kernel
theorem dX12_copies_20 : decode cX12_copies 20 = .ok (.goto (-17), 3) := by decide +kernel
theorem dX12_copies_23 : decode cX12_copies 23 = .ok (.return_, 1) := by decide +kernel
theorem dX12_tellsStep_0 : decode cX12_tellsStep 0 = .ok (.aload_n 0, 1) := by decide +kernel
theorem dX12_tellsStep_1 : decode cX12_tellsStep 1 = .ok (.invokevirtual 127, 3) := by decide +kernel
theorem dX12_tellsStep_4 : decode cX12_tellsStep 4 = .ok (.ifCond .ne 4, 3) := by decide +kernel
theorem dX12_tellsStep_7 : decode cX12_tellsStep 7 = .ok (.return_, 1) := by decide +kernel
theorem dX12_tellsStep_8 : decode cX12_tellsStep 8 = .ok (.aload_n 0, 1) := by decide +kernel
theorem dX12_tellsStep_9 : decode cX12_tellsStep 9 = .ok (.getfield 53, 3) := by decide +kernel
theorem dX12_tellsStep_12 : decode cX12_tellsStep 12 = .ok (.aload_n 0, 1) := by decide +kernel
theorem dX12_tellsStep_13 : decode cX12_tellsStep 13 = .ok (.getfield 272, 3) := by decide +kernel
theorem dX12_tellsStep_16 : decode cX12_tellsStep 16 = .ok (.iload_n 1, 1) := by decide +kernel
theorem dX12_tellsStep_17 : decode cX12_tellsStep 17 = .ok (.iastore, 1) := by decide +kernel
theorem dX12_tellsStep_18 : decode cX12_tellsStep 18 = .ok (.aload_n 0, 1) := by decide +kernel
theorem dX12_tellsStep_19 : decode cX12_tellsStep 19 = .ok (.getfield 53, 3) := by decide +kernel
theorem dX12_tellsStep_22 : decode cX12_tellsStep 22 = .ok (.aload_n 0, 1) := by decide +kernel
theorem dX12_tellsStep_23 : decode cX12_tellsStep 23 = .ok (.getfield 272, 3) := by decide +kernel
theorem dX12_tellsStep_26 : decode cX12_tellsStep 26 = .ok (.iconst 1, 1) := by decide +kernel
theorem dX12_tellsStep_27 : decode cX12_tellsStep 27 = .ok (.iadd, 1) := by decide +kernel
theorem dX12_tellsStep_28 : decode cX12_tellsStep 28 = .ok (.iload_n 2, 1) := by decide +kernel
theorem dX12_tellsStep_29 : decode cX12_tellsStep 29 = .ok (.iastore, 1) := by decide +kernel
theorem dX12_tellsStep_30 : decode cX12_tellsStep 30 = .ok (.aload_n 0, 1) := by decide +kernel
theorem dX12_tellsStep_31 : decode cX12_tellsStep 31 = .ok (.getfield 53, 3) := by decide +kernel
theorem dX12_tellsStep_34 : decode cX12_tellsStep 34 = .ok (.aload_n 0, 1) := by decide +kernel
theorem dX12_tellsStep_35 : decode cX12_tellsStep 35 = .ok (.getfield 272, 3) := by decide +kernel
theorem dX12_tellsStep_38 : decode cX12_tellsStep 38 = .ok (.iconst 2, 1) := by decide +kernel
theorem dX12_tellsStep_39 : decode cX12_tellsStep 39 = .ok (.iadd, 1) := by decide +kernel
theorem dX12_tellsStep_40 : decode cX12_tellsStep 40 = .ok (.iload_n 3, 1) := by decide +kernel
theorem dX12_tellsStep_41 : decode cX12_tellsStep 41 = .ok (.iastore, 1) := by decide +kernel
theorem dX12_tellsStep_42 : decode cX12_tellsStep 42 = .ok (.aload_n 0, 1) := by decide +kernel
theorem dX12_tellsStep_43 : decode cX12_tellsStep 43 = .ok (.getfield 53, 3) := by decide +kernel
theorem dX12_tellsStep_46 : decode cX12_tellsStep 46 = .ok (.aload_n 0, 1) := by decide +kernel
theorem dX12_tellsStep_47 : decode cX12_tellsStep 47 = .ok (.getfield 272, 3) := by decide +kernel
theorem dX12_tellsStep_50 : decode cX12_tellsStep 50 = .ok (.iconst 3, 1) := by decide +kernel
theorem dX12_tellsStep_51 : decode cX12_tellsStep 51 = .ok (.iadd, 1) := by decide +kernel
theorem dX12_tellsStep_52 : decode cX12_tellsStep 52 = .ok (.iload 4, 2) := by decide +kernel
theorem dX12_tellsStep_54 : decode cX12_tellsStep 54 = .ok (.iastore, 1) := by decide +kernel
theorem dX12_tellsStep_55 : decode cX12_tellsStep 55 = .ok (.aload_n 0, 1) := by decide +kernel
theorem dX12_tellsStep_56 : decode cX12_tellsStep 56 = .ok (.dup, 1) := by decide +kernel
theorem dX12_tellsStep_57 : decode cX12_tellsStep 57 = .ok (.getfield 272, 3) := by decide +kernel
theorem dX12_tellsStep_60 : decode cX12_tellsStep 60 = .ok (.iconst 4, 1) := by decide +kernel
theorem dX12_tellsStep_61 : decode cX12_tellsStep 61 = .ok (.iadd, 1) := by decide +kernel
theorem dX12_tellsStep_62 : decode cX12_tellsStep 62 = .ok (.putfield 272, 3) := by decide +kernel
theorem dX12_tellsStep_65 : decode cX12_tellsStep 65 = .ok (.return_, 1) := by decide +kernel
theorem dX12_thrown_0 : decode cX12_thrown 0 = .ok (.aload_n 0, 1) := by decide +kernel
theorem dX12_thrown_1 : decode cX12_thrown 1 = .ok (.getfield 3, 3) := by decide +kernel
theorem dX12_thrown_4 : decode cX12_thrown 4 = .ok (.ireturn, 1) := by decide +kernel
theorem dX12_here_0 : decode cX12_here 0 = .ok (.aload_n 0, 1) := by decide +kernel
theorem dX12_here_1 : decode cX12_here 1 = .ok (.getfield 104, 3) := by decide +kernel
theorem dX12_here_4 : decode cX12_here 4 = .ok (.aload_n 0, 1) := by decide +kernel
theorem dX12_here_5 : decode cX12_here 5 = .ok (.getfield 107, 3) := by decide +kernel
theorem dX12_here_8 : decode cX12_here 8 = .ok (.if_icmp .ge 30, 3) := by decide +kernel
theorem dX12_here_11 : decode cX12_here 11 = .ok (.aload_n 0, 1) := by decide +kernel
theorem dX12_here_12 : decode cX12_here 12 = .ok (.getfield 20, 3) := by decide +kernel
theorem dX12_here_15 : decode cX12_here 15 = .ok (.aload_n 0, 1) := by decide +kernel
theorem dX12_here_16 : decode cX12_here 16 = .ok (.getfield 104, 3) := by decide +kernel
theorem dX12_here_19 : decode cX12_here 19 = .ok (.iaload, 1) := by decide +kernel
theorem dX12_here_20 : decode cX12_here 20 = .ok (.bipush 32, 2) := by decide +kernel
theorem dX12_here_22 : decode cX12_here 22 = .ok (.if_icmp .ne 16, 3) := by decide +kernel
theorem dX12_here_25 : decode cX12_here 25 = .ok (.aload_n 0, 1) := by decide +kernel
theorem dX12_here_26 : decode cX12_here 26 = .ok (.dup, 1) := by decide +kernel
theorem dX12_here_27 : decode cX12_here 27 = .ok (.getfield 104, 3) := by decide +kernel
theorem dX12_here_30 : decode cX12_here 30 = .ok (.iconst 1, 1) := by decide +kernel
theorem dX12_here_31 : decode cX12_here 31 = .ok (.iadd, 1) := by decide +kernel
theorem dX12_here_32 : decode cX12_here 32 = .ok (.putfield 104, 3) := by decide +kernel
theorem dX12_here_35 : decode cX12_here 35 = .ok (.goto (-35), 3) := by decide +kernel
theorem dX12_here_38 : decode cX12_here 38 = .ok (.aload_n 0, 1) := by decide +kernel
theorem dX12_here_39 : decode cX12_here 39 = .ok (.getfield 104, 3) := by decide +kernel
theorem dX12_here_42 : decode cX12_here 42 = .ok (.aload_n 0, 1) := by decide +kernel
theorem dX12_here_43 : decode cX12_here 43 = .ok (.getfield 107, 3) := by decide +kernel
theorem dX12_here_46 : decode cX12_here 46 = .ok (.if_icmp .ge 15, 3) := by decide +kernel
theorem dX12_here_49 : decode cX12_here 49 = .ok (.aload_n 0, 1) := by decide +kernel
theorem dX12_here_50 : decode cX12_here 50 = .ok (.getfield 20, 3) := by decide +kernel
theorem dX12_here_53 : decode cX12_here 53 = .ok (.aload_n 0, 1) := by decide +kernel
theorem dX12_here_54 : decode cX12_here 54 = .ok (.getfield 104, 3) := by decide +kernel
theorem dX12_here_57 : decode cX12_here 57 = .ok (.iaload, 1) := by decide +kernel
theorem dX12_here_58 : decode cX12_here 58 = .ok (.goto 4, 3) := by decide +kernel
theorem dX12_here_61 : decode cX12_here 61 = .ok (.iconst 0, 1) := by decide +kernel
theorem dX12_here_62 : decode cX12_here 62 = .ok (.ireturn, 1) := by decide +kernel
theorem dX12_isMoved_0 : decode cX12_isMoved 0 = .ok (.aload_n 0, 1) := by decide +kernel
theorem dX12_isMoved_1 : decode cX12_isMoved 1 = .ok (.getfield 62, 3) := by decide +kernel
theorem dX12_isMoved_4 : decode cX12_isMoved 4 = .ok (.iload_n 1, 1) := by decide +kernel
theorem dX12_isMoved_5 : decode cX12_isMoved 5 = .ok (.iaload, 1) := by decide +kernel
theorem dX12_isMoved_6 : decode cX12_isMoved 6 = .ok (.iload_n 3, 1) := by decide +kernel
theorem dX12_isMoved_7 : decode cX12_isMoved 7 = .ok (.if_icmp .ge 5, 3) := by decide +kernel
theorem dX12_isMoved_10 : decode cX12_isMoved 10 = .ok (.iconst 0, 1) := by decide +kernel
theorem dX12_isMoved_11 : decode cX12_isMoved 11 = .ok (.ireturn, 1) := by decide +kernel
theorem dX12_isMoved_12 : decode cX12_isMoved 12 = .ok (.aload_n 0, 1) := by decide +kernel
theorem dX12_isMoved_13 : decode cX12_isMoved 13 = .ok (.getfield 62, 3) := by decide +kernel
theorem dX12_isMoved_16 : decode cX12_isMoved 16 = .ok (.iload_n 1, 1) := by decide +kernel
theorem dX12_isMoved_17 : decode cX12_isMoved 17 = .ok (.dup2, 1) := by decide +kernel
theorem dX12_isMoved_18 : decode cX12_isMoved 18 = .ok (.iaload, 1) := by decide +kernel
theorem dX12_isMoved_19 : decode cX12_isMoved 19 = .ok (.iload_n 3, 1) := by decide +kernel
theorem dX12_isMoved_20 : decode cX12_isMoved 20 = .ok (.isub, 1) := by decide +kernel
theorem dX12_isMoved_21 : decode cX12_isMoved 21 = .ok (.iastore, 1) := by decide +kernel
theorem dX12_isMoved_22 : decode cX12_isMoved 22 = .ok (.aload_n 0, 1) := by decide +kernel
theorem dX12_isMoved_23 : decode cX12_isMoved 23 = .ok (.getfield 62, 3) := by decide +kernel
theorem dX12_isMoved_26 : decode cX12_isMoved 26 = .ok (.iload_n 2, 1) := by decide +kernel
theorem dX12_isMoved_27 : decode cX12_isMoved 27 = .ok (.dup2, 1) := by decide +kernel
theorem dX12_isMoved_28 : decode cX12_isMoved 28 = .ok (.iaload, 1) := by decide +kernel
theorem dX12_isMoved_29 : decode cX12_isMoved 29 = .ok (.iload_n 3, 1) := by decide +kernel
theorem dX12_isMoved_30 : decode cX12_isMoved 30 = .ok (.iadd, 1) := by decide +kernel
theorem dX12_isMoved_31 : decode cX12_isMoved 31 = .ok (.iastore, 1) := by decide +kernel
theorem dX12_isMoved_32 : decode cX12_isMoved 32 = .ok (.iconst 1, 1) := by decide +kernel
theorem dX12_isMoved_33 : decode cX12_isMoved 33 = .ok (.ireturn, 1) := by decide +kernel
theorem dX12_isMore_0 : decode cX12_isMore 0 = .ok (.aload_n 0, 1) := by decide +kernel
theorem dX12_isMore_1 : decode cX12_isMore 1 = .ok (.invokevirtual 110, 3) := by decide +kernel
theorem dX12_isMore_4 : decode cX12_isMore 4 = .ok (.pop, 1) := by decide +kernel
theorem dX12_isMore_5 : decode cX12_isMore 5 = .ok (.aload_n 0, 1) := by decide +kernel
theorem dX12_isMore_6 : decode cX12_isMore 6 = .ok (.getfield 104, 3) := by decide +kernel
theorem dX12_isMore_9 : decode cX12_isMore 9 = .ok (.aload_n 0, 1) := by decide +kernel
theorem dX12_isMore_10 : decode cX12_isMore 10 = .ok (.getfield 107, 3) := by decide +kernel
theorem dX12_isMore_13 : decode cX12_isMore 13 = .ok (.if_icmp .ge 7, 3) := by decide +kernel
theorem dX12_isMore_16 : decode cX12_isMore 16 = .ok (.iconst 1, 1) := by decide +kernel
theorem dX12_isMore_17 : decode cX12_isMore 17 = .ok (.goto 4, 3) := by decide +kernel
theorem dX12_isMore_20 : decode cX12_isMore 20 = .ok (.iconst 0, 1) := by decide +kernel
theorem dX12_isMore_21 : decode cX12_isMore 21 = .ok (.ireturn, 1) := by decide +kernel
theorem dX12_sets_0 : decode cX12_sets 0 = .ok (.aload_n 0, 1) := by decide +kernel
theorem dX12_sets_1 : decode cX12_sets 1 = .ok (.aload_n 0, 1) := by decide +kernel
theorem dX12_sets_2 : decode cX12_sets 2 = .ok (.getfield 141, 3) := by decide +kernel
theorem dX12_sets_5 : decode cX12_sets 5 = .ok (.putfield 150, 3) := by decide +kernel
theorem dX12_sets_8 : decode cX12_sets 8 = .ok (.aload_n 0, 1) := by decide +kernel
theorem dX12_sets_9 : decode cX12_sets 9 = .ok (.aload_n 0, 1) := by decide +kernel
theorem dX12_sets_10 : decode cX12_sets 10 = .ok (.getfield 144, 3) := by decide +kernel
theorem dX12_sets_13 : decode cX12_sets 13 = .ok (.putfield 153, 3) := by decide +kernel
theorem dX12_sets_16 : decode cX12_sets 16 = .ok (.aload_n 0, 1) := by decide +kernel
theorem dX12_sets_17 : decode cX12_sets 17 = .ok (.aload_n 0, 1) := by decide +kernel
theorem dX12_sets_18 : decode cX12_sets 18 = .ok (.getfield 147, 3) := by decide +kernel
theorem dX12_sets_21 : decode cX12_sets 21 = .ok (.putfield 156, 3) := by decide +kernel
theorem dX12_sets_24 : decode cX12_sets 24 = .ok (.aload_n 0, 1) := by decide +kernel
theorem dX12_sets_25 : decode cX12_sets 25 = .ok (.aload_n 0, 1) := by decide +kernel
theorem dX12_sets_26 : decode cX12_sets 26 = .ok (.getfield 23, 3) := by decide +kernel
theorem dX12_sets_29 : decode cX12_sets 29 = .ok (.aload_n 0, 1) := by decide +kernel
theorem dX12_sets_30 : decode cX12_sets 30 = .ok (.getfield 29, 3) := by decide +kernel
theorem dX12_sets_33 : decode cX12_sets 33 = .ok (.bipush 42, 2) := by decide +kernel
theorem dX12_sets_35 : decode cX12_sets 35 = .ok (.invokevirtual 159, 3) := by decide +kernel
theorem dX12_sets_38 : decode cX12_sets 38 = .ok (.aload_n 0, 1) := by decide +kernel
theorem dX12_sets_39 : decode cX12_sets 39 = .ok (.aload_n 0, 1) := by decide +kernel
theorem dX12_sets_40 : decode cX12_sets 40 = .ok (.getfield 26, 3) := by decide +kernel
theorem dX12_sets_43 : decode cX12_sets 43 = .ok (.aload_n 0, 1) := by decide +kernel
theorem dX12_sets_44 : decode cX12_sets 44 = .ok (.getfield 32, 3) := by decide +kernel
theorem dX12_sets_47 : decode cX12_sets 47 = .ok (.bipush 16, 2) := by decide +kernel
theorem dX12_sets_49 : decode cX12_sets 49 = .ok (.invokevirtual 159, 3) := by decide +kernel
theorem dX12_sets_52 : decode cX12_sets 52 = .ok (.aload_n 0, 1) := by decide +kernel
theorem dX12_sets_53 : decode cX12_sets 53 = .ok (.iconst 0, 1) := by decide +kernel
theorem dX12_sets_54 : decode cX12_sets 54 = .ok (.putfield 163, 3) := by decide +kernel
theorem dX12_sets_57 : decode cX12_sets 57 = .ok (.aload_n 0, 1) := by decide +kernel
theorem dX12_sets_58 : decode cX12_sets 58 = .ok (.iconst 0, 1) := by decide +kernel
theorem dX12_sets_59 : decode cX12_sets 59 = .ok (.putfield 166, 3) := by decide +kernel
theorem dX12_sets_62 : decode cX12_sets 62 = .ok (.aload_n 0, 1) := by decide +kernel
theorem dX12_sets_63 : decode cX12_sets 63 = .ok (.iconst 0, 1) := by decide +kernel
theorem dX12_sets_64 : decode cX12_sets 64 = .ok (.putfield 169, 3) := by decide +kernel
theorem dX12_sets_67 : decode cX12_sets 67 = .ok (.aload_n 0, 1) := by decide +kernel
theorem dX12_sets_68 : decode cX12_sets 68 = .ok (.iconst 0, 1) := by decide +kernel
theorem dX12_sets_69 : decode cX12_sets 69 = .ok (.putfield 172, 3) := by decide +kernel
theorem dX12_sets_72 : decode cX12_sets 72 = .ok (.aload_n 0, 1) := by decide +kernel
theorem dX12_sets_73 : decode cX12_sets 73 = .ok (.iconst 0, 1) := by decide +kernel
theorem dX12_sets_74 : decode cX12_sets 74 = .ok (.putfield 175, 3) := by decide +kernel
theorem dX12_sets_77 : decode cX12_sets 77 = .ok (.iconst 0, 1) := by decide +kernel
theorem dX12_sets_78 : decode cX12_sets 78 = .ok (.istore_n 1, 1) := by decide +kernel
theorem dX12_sets_79 : decode cX12_sets 79 = .ok (.iload_n 1, 1) := by decide +kernel
theorem dX12_sets_80 : decode cX12_sets 80 = .ok (.sipush 175, 3) := by decide +kernel
theorem dX12_sets_83 : decode cX12_sets 83 = .ok (.if_icmp .ge 36, 3) := by decide +kernel
theorem dX12_sets_86 : decode cX12_sets 86 = .ok (.aload_n 0, 1) := by decide +kernel
theorem dX12_sets_87 : decode cX12_sets 87 = .ok (.getfield 59, 3) := by decide +kernel
theorem dX12_sets_90 : decode cX12_sets 90 = .ok (.iload_n 1, 1) := by decide +kernel
theorem dX12_sets_91 : decode cX12_sets 91 = .ok (.iload_n 1, 1) := by decide +kernel
theorem dX12_sets_92 : decode cX12_sets 92 = .ok (.bipush 7, 2) := by decide +kernel
theorem dX12_sets_94 : decode cX12_sets 94 = .ok (.aload_n 0, 1) := by decide +kernel
theorem dX12_sets_95 : decode cX12_sets 95 = .ok (.getfield 150, 3) := by decide +kernel
theorem dX12_sets_98 : decode cX12_sets 98 = .ok (.imul, 1) := by decide +kernel
theorem dX12_sets_99 : decode cX12_sets 99 = .ok (.if_icmp .ge 12, 3) := by decide +kernel
theorem dX12_sets_102 : decode cX12_sets 102 = .ok (.aload_n 0, 1) := by decide +kernel
theorem dX12_sets_103 : decode cX12_sets 103 = .ok (.getfield 29, 3) := by decide +kernel
theorem dX12_sets_106 : decode cX12_sets 106 = .ok (.iload_n 1, 1) := by decide +kernel
theorem dX12_sets_107 : decode cX12_sets 107 = .ok (.iaload, 1) := by decide +kernel
theorem dX12_sets_108 : decode cX12_sets 108 = .ok (.goto 4, 3) := by decide +kernel
theorem dX12_sets_111 : decode cX12_sets 111 = .ok (.iconst 0, 1) := by decide +kernel
theorem dX12_sets_112 : decode cX12_sets 112 = .ok (.iastore, 1) := by decide +kernel
theorem dX12_sets_113 : decode cX12_sets 113 = .ok (.iinc 1 1, 3) := by decide +kernel
theorem dX12_sets_116 : decode cX12_sets 116 = .ok (.goto (-37), 3) := by decide +kernel
theorem dX12_sets_119 : decode cX12_sets 119 = .ok (.return_, 1) := by decide +kernel
theorem dX12_isSmall_0 : decode cX12_isSmall 0 = .ok (.iload_n 0, 1) := by decide +kernel
theorem dX12_isSmall_1 : decode cX12_isSmall 1 = .ok (.bipush 97, 2) := by decide +kernel
theorem dX12_isSmall_3 : decode cX12_isSmall 3 = .ok (.if_icmp .lt 13, 3) := by decide +kernel
theorem dX12_isSmall_6 : decode cX12_isSmall 6 = .ok (.iload_n 0, 1) := by decide +kernel
theorem dX12_isSmall_7 : decode cX12_isSmall 7 = .ok (.bipush 122, 2) := by decide +kernel
theorem dX12_isSmall_9 : decode cX12_isSmall 9 = .ok (.if_icmp .gt 7, 3) := by decide +kernel
theorem dX12_isSmall_12 : decode cX12_isSmall 12 = .ok (.iconst 1, 1) := by decide +kernel
theorem dX12_isSmall_13 : decode cX12_isSmall 13 = .ok (.goto 4, 3) := by decide +kernel
theorem dX12_isSmall_16 : decode cX12_isSmall 16 = .ok (.iconst 0, 1) := by decide +kernel
theorem dX12_isSmall_17 : decode cX12_isSmall 17 = .ok (.ireturn, 1) := by decide +kernel
theorem dX12_wallOf_0 : decode cX12_wallOf 0 = .ok (.aload_n 0, 1) := by decide +kernel
theorem dX12_wallOf_1 : decode cX12_wallOf 1 = .ok (.bipush 42, 2) := by decide +kernel
theorem dX12_wallOf_3 : decode cX12_wallOf 3 = .ok (.iload_n 1, 1) := by decide +kernel
theorem dX12_wallOf_4 : decode cX12_wallOf 4 = .ok (.iconst 0, 1) := by decide +kernel
theorem dX12_wallOf_5 : decode cX12_wallOf 5 = .ok (.invokestatic 319, 3) := by decide +kernel
theorem dX12_wallOf_8 : decode cX12_wallOf 8 = .ok (.bipush 7, 2) := by decide +kernel
theorem dX12_wallOf_10 : decode cX12_wallOf 10 = .ok (.invokevirtual 322, 3) := by decide +kernel
theorem dX12_wallOf_13 : decode cX12_wallOf 13 = .ok (.ireturn, 1) := by decide +kernel
theorem dX12_take_0 : decode cX12_take 0 = .ok (.aload_n 0, 1) := by decide +kernel
theorem dX12_take_1 : decode cX12_take 1 = .ok (.aload_n 0, 1) := by decide +kernel
theorem dX12_take_2 : decode cX12_take 2 = .ok (.getfield 59, 3) := by decide +kernel
theorem dX12_take_5 : decode cX12_take 5 = .ok (.aload_n 0, 1) := by decide +kernel
theorem dX12_take_6 : decode cX12_take 6 = .ok (.getfield 62, 3) := by decide +kernel
theorem dX12_take_9 : decode cX12_take 9 = .ok (.sipush 175, 3) := by decide +kernel
theorem dX12_take_12 : decode cX12_take 12 = .ok (.invokevirtual 159, 3) := by decide +kernel
theorem dX12_take_15 : decode cX12_take 15 = .ok (.return_, 1) := by decide +kernel
theorem dX12_undo_0 : decode cX12_undo 0 = .ok (.aload_n 0, 1) := by decide +kernel
theorem dX12_undo_1 : decode cX12_undo 1 = .ok (.iconst 0, 1) := by decide +kernel
theorem dX12_undo_2 : decode cX12_undo 2 = .ok (.putfield 3, 3) := by decide +kernel
theorem dX12_undo_5 : decode cX12_undo 5 = .ok (.aload_n 0, 1) := by decide +kernel
theorem dX12_undo_6 : decode cX12_undo 6 = .ok (.getfield 169, 3) := by decide +kernel
theorem dX12_undo_9 : decode cX12_undo 9 = .ok (.ifCond .ne 5, 3) := by decide +kernel
theorem dX12_undo_12 : decode cX12_undo 12 = .ok (.iconst (-1), 1) := by decide +kernel
theorem dX12_undo_13 : decode cX12_undo 13 = .ok (.ireturn, 1) := by decide +kernel
theorem dX12_undo_14 : decode cX12_undo 14 = .ok (.aload_n 0, 1) := by decide +kernel
theorem dX12_undo_15 : decode cX12_undo 15 = .ok (.dup, 1) := by decide +kernel
theorem dX12_undo_16 : decode cX12_undo 16 = .ok (.getfield 169, 3) := by decide +kernel
theorem dX12_undo_19 : decode cX12_undo 19 = .ok (.iconst 1, 1) := by decide +kernel
theorem dX12_undo_20 : decode cX12_undo 20 = .ok (.isub, 1) := by decide +kernel
theorem dX12_undo_21 : decode cX12_undo 21 = .ok (.putfield 169, 3) := by decide +kernel
theorem dX12_undo_24 : decode cX12_undo 24 = .ok (.iconst 0, 1) := by decide +kernel
theorem dX12_undo_25 : decode cX12_undo 25 = .ok (.istore_n 1, 1) := by decide +kernel
theorem dX12_undo_26 : decode cX12_undo 26 = .ok (.iload_n 1, 1) := by decide +kernel
theorem dX12_undo_27 : decode cX12_undo 27 = .ok (.sipush 175, 3) := by decide +kernel
theorem dX12_undo_30 : decode cX12_undo 30 = .ok (.if_icmp .ge 30, 3) := by decide +kernel
theorem dX12_undo_33 : decode cX12_undo 33 = .ok (.aload_n 0, 1) := by decide +kernel
theorem dX12_undo_34 : decode cX12_undo 34 = .ok (.getfield 59, 3) := by decide +kernel
theorem dX12_undo_37 : decode cX12_undo 37 = .ok (.iload_n 1, 1) := by decide +kernel
theorem dX12_undo_38 : decode cX12_undo 38 = .ok (.aload_n 0, 1) := by decide +kernel
theorem dX12_undo_39 : decode cX12_undo 39 = .ok (.getfield 65, 3) := by decide +kernel
theorem dX12_undo_42 : decode cX12_undo 42 = .ok (.sipush 175, 3) := by decide +kernel
theorem dX12_undo_45 : decode cX12_undo 45 = .ok (.aload_n 0, 1) := by decide +kernel
theorem dX12_undo_46 : decode cX12_undo 46 = .ok (.getfield 169, 3) := by decide +kernel
theorem dX12_undo_49 : decode cX12_undo 49 = .ok (.imul, 1) := by decide +kernel
theorem dX12_undo_50 : decode cX12_undo 50 = .ok (.iload_n 1, 1) := by decide +kernel
theorem dX12_undo_51 : decode cX12_undo 51 = .ok (.iadd, 1) := by decide +kernel
theorem dX12_undo_52 : decode cX12_undo 52 = .ok (.iaload, 1) := by decide +kernel
theorem dX12_undo_53 : decode cX12_undo 53 = .ok (.iastore, 1) := by decide +kernel
theorem dX12_undo_54 : decode cX12_undo 54 = .ok (.iinc 1 1, 3) := by decide +kernel
theorem dX12_undo_57 : decode cX12_undo 57 = .ok (.goto (-31), 3) := by decide +kernel
theorem dX12_undo_60 : decode cX12_undo 60 = .ok (.aload_n 0, 1) := by decide +kernel
theorem dX12_undo_61 : decode cX12_undo 61 = .ok (.iconst 0, 1) := by decide +kernel
theorem dX12_undo_62 : decode cX12_undo 62 = .ok (.putfield 175, 3) := by decide +kernel
theorem dX12_undo_65 : decode cX12_undo 65 = .ok (.aload_n 0, 1) := by decide +kernel
theorem dX12_undo_66 : decode cX12_undo 66 = .ok (.getfield 169, 3) := by decide +kernel
theorem dX12_undo_69 : decode cX12_undo 69 = .ok (.ireturn, 1) := by decide +kernel
theorem dX12_within_0 : decode cX12_within 0 = .ok (.iload_n 0, 1) := by decide +kernel
theorem dX12_within_1 : decode cX12_within 1 = .ok (.iload_n 1, 1) := by decide +kernel
theorem dX12_within_2 : decode cX12_within 2 = .ok (.if_icmp .lt 12, 3) := by decide +kernel
theorem dX12_within_5 : decode cX12_within 5 = .ok (.iload_n 0, 1) := by decide +kernel
theorem dX12_within_6 : decode cX12_within 6 = .ok (.iload_n 2, 1) := by decide +kernel
theorem dX12_within_7 : decode cX12_within 7 = .ok (.if_icmp .gt 7, 3) := by decide +kernel
theorem dX12_within_10 : decode cX12_within 10 = .ok (.iconst 1, 1) := by decide +kernel
theorem dX12_within_11 : decode cX12_within 11 = .ok (.goto 4, 3) := by decide +kernel
theorem dX12_within_14 : decode cX12_within 14 = .ok (.iconst 0, 1) := by decide +kernel
theorem dX12_within_15 : decode cX12_within 15 = .ok (.ireturn, 1) := by decide +kernel
theorem dX12_comesBack_0 : decode cX12_comesBack 0 = .ok (.iconst 0, 1) := by decide +kernel
theorem dX12_comesBack_1 : decode cX12_comesBack 1 = .ok (.istore_n 3, 1) := by decide +kernel
theorem dX12_comesBack_2 : decode cX12_comesBack 2 = .ok (.iconst 0, 1) := by decide +kernel
theorem dX12_comesBack_3 : decode cX12_comesBack 3 = .ok (.istore 4, 2) := by decide +kernel
theorem dX12_comesBack_5 : decode cX12_comesBack 5 = .ok (.iload 4, 2) := by decide +kernel
theorem dX12_comesBack_7 : decode cX12_comesBack 7 = .ok (.bipush 7, 2) := by decide +kernel
theorem dX12_comesBack_9 : decode cX12_comesBack 9 = .ok (.if_icmp .ge 74, 3) := by decide +kernel
theorem dX12_comesBack_12 : decode cX12_comesBack 12 = .ok (.aload_n 0, 1) := by decide +kernel
theorem dX12_comesBack_13 : decode cX12_comesBack 13 = .ok (.iload_n 2, 1) := by decide +kernel
theorem dX12_comesBack_14 : decode cX12_comesBack 14 = .ok (.invokevirtual 335, 3) := by decide +kernel
theorem dX12_comesBack_17 : decode cX12_comesBack 17 = .ok (.ifCond .eq 66, 3) := by decide +kernel
theorem dX12_comesBack_20 : decode cX12_comesBack 20 = .ok (.aload_n 0, 1) := by decide +kernel
theorem dX12_comesBack_21 : decode cX12_comesBack 21 = .ok (.getfield 62, 3) := by decide +kernel
theorem dX12_comesBack_24 : decode cX12_comesBack 24 = .ok (.bipush 42, 2) := by decide +kernel
theorem dX12_comesBack_26 : decode cX12_comesBack 26 = .ok (.iload_n 1, 1) := by decide +kernel
theorem dX12_comesBack_27 : decode cX12_comesBack 27 = .ok (.iload 4, 2) := by decide +kernel
theorem dX12_comesBack_29 : decode cX12_comesBack 29 = .ok (.invokestatic 319, 3) := by decide +kernel
theorem dX12_comesBack_32 : decode cX12_comesBack 32 = .ok (.iaload, 1) := by decide +kernel
theorem dX12_comesBack_33 : decode cX12_comesBack 33 = .ok (.istore 5, 2) := by decide +kernel
theorem dX12_comesBack_35 : decode cX12_comesBack 35 = .ok (.iload_n 3, 1) := by decide +kernel
theorem dX12_comesBack_36 : decode cX12_comesBack 36 = .ok (.iload 5, 2) := by decide +kernel
theorem dX12_comesBack_38 : decode cX12_comesBack 38 = .ok (.ifCond .le 36, 3) := by decide +kernel
theorem dX12_comesBack_41 : decode cX12_comesBack 41 = .ok (.aload_n 0, 1) := by decide +kernel
theorem dX12_comesBack_42 : decode cX12_comesBack 42 = .ok (.iload_n 1, 1) := by decide +kernel
theorem dX12_comesBack_43 : decode cX12_comesBack 43 = .ok (.iload 4, 2) := by decide +kernel
theorem dX12_comesBack_45 : decode cX12_comesBack 45 = .ok (.iload_n 2, 1) := by decide +kernel
theorem dX12_comesBack_46 : decode cX12_comesBack 46 = .ok (.iload 5, 2) := by decide +kernel
theorem dX12_comesBack_48 : decode cX12_comesBack 48 = .ok (.invokevirtual 338, 3) := by decide +kernel
theorem dX12_comesBack_51 : decode cX12_comesBack 51 = .ok (.aload_n 0, 1) := by decide +kernel
theorem dX12_comesBack_52 : decode cX12_comesBack 52 = .ok (.getfield 62, 3) := by decide +kernel
theorem dX12_comesBack_55 : decode cX12_comesBack 55 = .ok (.bipush 84, 2) := by decide +kernel
theorem dX12_comesBack_57 : decode cX12_comesBack 57 = .ok (.iload_n 1, 1) := by decide +kernel
theorem dX12_comesBack_58 : decode cX12_comesBack 58 = .ok (.iload 4, 2) := by decide +kernel
theorem dX12_comesBack_60 : decode cX12_comesBack 60 = .ok (.invokestatic 319, 3) := by decide +kernel
theorem dX12_comesBack_63 : decode cX12_comesBack 63 = .ok (.iaload, 1) := by decide +kernel
theorem dX12_comesBack_64 : decode cX12_comesBack 64 = .ok (.if_icmp .ne 10, 3) := by decide +kernel
theorem dX12_comesBack_67 : decode cX12_comesBack 67 = .ok (.iconst 1, 1) := by decide +kernel
theorem dX12_comesBack_68 : decode cX12_comesBack 68 = .ok (.iload 4, 2) := by decide +kernel
theorem dX12_comesBack_70 : decode cX12_comesBack 70 = .ok (.ishl, 1) := by decide +kernel
theorem dX12_comesBack_71 : decode cX12_comesBack 71 = .ok (.goto 4, 3) := by decide +kernel
theorem dX12_comesBack_74 : decode cX12_comesBack 74 = .ok (.iconst 0, 1) := by decide +kernel
theorem dX12_comesBack_75 : decode cX12_comesBack 75 = .ok (.ior, 1) := by decide +kernel
theorem dX12_comesBack_76 : decode cX12_comesBack 76 = .ok (.istore_n 3, 1) := by decide +kernel
theorem dX12_comesBack_77 : decode cX12_comesBack 77 = .ok (.iinc 4 1, 3) := by decide +kernel
theorem dX12_comesBack_80 : decode cX12_comesBack 80 = .ok (.goto (-75), 3) := by decide +kernel
theorem dX12_comesBack_83 : decode cX12_comesBack 83 = .ok (.iload_n 3, 1) := by decide +kernel
theorem dX12_comesBack_84 : decode cX12_comesBack 84 = .ok (.ireturn, 1) := by decide +kernel
theorem dX12_word_0 : decode cX12_word 0 = .ok (.aload_n 0, 1) := by decide +kernel
theorem dX12_word_1 : decode cX12_word 1 = .ok (.invokevirtual 110, 3) := by decide +kernel
theorem dX12_word_4 : decode cX12_word 4 = .ok (.pop, 1) := by decide +kernel
theorem dX12_word_5 : decode cX12_word 5 = .ok (.iconst 0, 1) := by decide +kernel
theorem dX12_word_6 : decode cX12_word 6 = .ok (.istore_n 1, 1) := by decide +kernel
theorem dX12_word_7 : decode cX12_word 7 = .ok (.iconst 0, 1) := by decide +kernel
theorem dX12_word_8 : decode cX12_word 8 = .ok (.istore_n 2, 1) := by decide +kernel
theorem dX12_word_9 : decode cX12_word 9 = .ok (.aload_n 0, 1) := by decide +kernel
theorem dX12_word_10 : decode cX12_word 10 = .ok (.getfield 104, 3) := by decide +kernel
theorem dX12_word_13 : decode cX12_word 13 = .ok (.istore_n 3, 1) := by decide +kernel
theorem dX12_word_14 : decode cX12_word 14 = .ok (.iload_n 3, 1) := by decide +kernel
theorem dX12_word_15 : decode cX12_word 15 = .ok (.aload_n 0, 1) := by decide +kernel
theorem dX12_word_16 : decode cX12_word 16 = .ok (.getfield 107, 3) := by decide +kernel
theorem dX12_word_19 : decode cX12_word 19 = .ok (.if_icmp .ge 48, 3) := by decide +kernel
theorem dX12_word_22 : decode cX12_word 22 = .ok (.aload_n 0, 1) := by decide +kernel
theorem dX12_word_23 : decode cX12_word 23 = .ok (.getfield 20, 3) := by decide +kernel
theorem dX12_word_26 : decode cX12_word 26 = .ok (.iload_n 3, 1) := by decide +kernel
theorem dX12_word_27 : decode cX12_word 27 = .ok (.iaload, 1) := by decide +kernel
theorem dX12_word_28 : decode cX12_word 28 = .ok (.invokestatic 114, 3) := by decide +kernel
theorem dX12_word_31 : decode cX12_word 31 = .ok (.ifCond .eq 36, 3) := by decide +kernel
theorem dX12_word_34 : decode cX12_word 34 = .ok (.iload_n 2, 1) := by decide +kernel
theorem dX12_word_35 : decode cX12_word 35 = .ok (.bipush 6, 2) := by decide +kernel
theorem dX12_word_37 : decode cX12_word 37 = .ok (.if_icmp .ge 19, 3) := by decide +kernel
theorem dX12_word_40 : decode cX12_word 40 = .ok (.iload_n 1, 1) := by decide +kernel
theorem dX12_word_41 : decode cX12_word 41 = .ok (.iconst 5, 1) := by decide +kernel
theorem dX12_word_42 : decode cX12_word 42 = .ok (.ishl, 1) := by decide +kernel
theorem dX12_word_43 : decode cX12_word 43 = .ok (.aload_n 0, 1) := by decide +kernel
theorem dX12_word_44 : decode cX12_word 44 = .ok (.getfield 20, 3) := by decide +kernel
theorem dX12_word_47 : decode cX12_word 47 = .ok (.iload_n 3, 1) := by decide +kernel
theorem dX12_word_48 : decode cX12_word 48 = .ok (.iaload, 1) := by decide +kernel
theorem dX12_word_49 : decode cX12_word 49 = .ok (.bipush 96, 2) := by decide +kernel
theorem dX12_word_51 : decode cX12_word 51 = .ok (.isub, 1) := by decide +kernel
theorem dX12_word_52 : decode cX12_word 52 = .ok (.ior, 1) := by decide +kernel
theorem dX12_word_53 : decode cX12_word 53 = .ok (.goto 4, 3) := by decide +kernel
theorem dX12_word_56 : decode cX12_word 56 = .ok (.iconst 0, 1) := by decide +kernel
theorem dX12_word_57 : decode cX12_word 57 = .ok (.istore_n 1, 1) := by decide +kernel
theorem dX12_word_58 : decode cX12_word 58 = .ok (.iinc 2 1, 3) := by decide +kernel
theorem dX12_word_61 : decode cX12_word 61 = .ok (.iinc 3 1, 3) := by decide +kernel
theorem dX12_word_64 : decode cX12_word 64 = .ok (.goto (-50), 3) := by decide +kernel
theorem dX12_word_67 : decode cX12_word 67 = .ok (.iload_n 2, 1) := by decide +kernel
theorem dX12_word_68 : decode cX12_word 68 = .ok (.bipush 6, 2) := by decide +kernel
theorem dX12_word_70 : decode cX12_word 70 = .ok (.if_icmp .le 7, 3) := by decide +kernel
theorem dX12_word_73 : decode cX12_word 73 = .ok (.iconst 0, 1) := by decide +kernel
theorem dX12_word_74 : decode cX12_word 74 = .ok (.goto 4, 3) := by decide +kernel
theorem dX12_word_77 : decode cX12_word 77 = .ok (.iload_n 1, 1) := by decide +kernel
theorem dX12_word_78 : decode cX12_word 78 = .ok (.ireturn, 1) := by decide +kernel
theorem dX12_isDone_0 : decode cX12_isDone 0 = .ok (.iload_n 1, 1) := by decide +kernel
theorem dX12_isDone_1 : decode cX12_isDone 1 = .ok (.ifCond .ne 10, 3) := by decide +kernel
theorem dX12_isDone_4 : decode cX12_isDone 4 = .ok (.aload_n 0, 1) := by decide +kernel
theorem dX12_isDone_5 : decode cX12_isDone 5 = .ok (.iload_n 2, 1) := by decide +kernel
theorem dX12_isDone_6 : decode cX12_isDone 6 = .ok (.iload_n 3, 1) := by decide +kernel
theorem dX12_isDone_7 : decode cX12_isDone 7 = .ok (.invokevirtual 345, 3) := by decide +kernel
theorem dX12_isDone_10 : decode cX12_isDone 10 = .ok (.ireturn, 1) := by decide +kernel
theorem dX12_isDone_11 : decode cX12_isDone 11 = .ok (.iload_n 1, 1) := by decide +kernel
theorem dX12_isDone_12 : decode cX12_isDone 12 = .ok (.iconst 1, 1) := by decide +kernel
theorem dX12_isDone_13 : decode cX12_isDone 13 = .ok (.if_icmp .ne 10, 3) := by decide +kernel
theorem dX12_isDone_16 : decode cX12_isDone 16 = .ok (.aload_n 0, 1) := by decide +kernel
theorem dX12_isDone_17 : decode cX12_isDone 17 = .ok (.iload_n 2, 1) := by decide +kernel
theorem dX12_isDone_18 : decode cX12_isDone 18 = .ok (.iload_n 3, 1) := by decide +kernel
theorem dX12_isDone_19 : decode cX12_isDone 19 = .ok (.invokevirtual 349, 3) := by decide +kernel
theorem dX12_isDone_22 : decode cX12_isDone 22 = .ok (.ireturn, 1) := by decide +kernel
theorem dX12_isDone_23 : decode cX12_isDone 23 = .ok (.iload_n 1, 1) := by decide +kernel
theorem dX12_isDone_24 : decode cX12_isDone 24 = .ok (.iconst 2, 1) := by decide +kernel
theorem dX12_isDone_25 : decode cX12_isDone 25 = .ok (.if_icmp .ne 23, 3) := by decide +kernel
theorem dX12_isDone_28 : decode cX12_isDone 28 = .ok (.aload_n 0, 1) := by decide +kernel
theorem dX12_isDone_29 : decode cX12_isDone 29 = .ok (.iconst 0, 1) := by decide +kernel
theorem dX12_isDone_30 : decode cX12_isDone 30 = .ok (.iload_n 2, 1) := by decide +kernel
theorem dX12_isDone_31 : decode cX12_isDone 31 = .ok (.iload_n 3, 1) := by decide +kernel
theorem dX12_isDone_32 : decode cX12_isDone 32 = .ok (.invokestatic 319, 3) := by decide +kernel
theorem dX12_isDone_35 : decode cX12_isDone 35 = .ok (.bipush 126, 2) := by decide +kernel
theorem dX12_isDone_37 : decode cX12_isDone 37 = .ok (.iload_n 2, 1) := by decide +kernel
theorem dX12_isDone_38 : decode cX12_isDone 38 = .ok (.iload_n 3, 1) := by decide +kernel
theorem dX12_isDone_39 : decode cX12_isDone 39 = .ok (.invokestatic 319, 3) := by decide +kernel
theorem dX12_isDone_42 : decode cX12_isDone 42 = .ok (.iload 4, 2) := by decide +kernel
theorem dX12_isDone_44 : decode cX12_isDone 44 = .ok (.invokevirtual 352, 3) := by decide +kernel
theorem dX12_isDone_47 : decode cX12_isDone 47 = .ok (.ireturn, 1) := by decide +kernel
theorem dX12_isDone_48 : decode cX12_isDone 48 = .ok (.iload_n 1, 1) := by decide +kernel
theorem dX12_isDone_49 : decode cX12_isDone 49 = .ok (.iconst 3, 1) := by decide +kernel
theorem dX12_isDone_50 : decode cX12_isDone 50 = .ok (.if_icmp .ne 23, 3) := by decide +kernel
theorem dX12_isDone_53 : decode cX12_isDone 53 = .ok (.aload_n 0, 1) := by decide +kernel
theorem dX12_isDone_54 : decode cX12_isDone 54 = .ok (.bipush 126, 2) := by decide +kernel
theorem dX12_isDone_56 : decode cX12_isDone 56 = .ok (.iload_n 2, 1) := by decide +kernel
theorem dX12_isDone_57 : decode cX12_isDone 57 = .ok (.iload_n 3, 1) := by decide +kernel
theorem dX12_isDone_58 : decode cX12_isDone 58 = .ok (.invokestatic 319, 3) := by decide +kernel
theorem dX12_isDone_61 : decode cX12_isDone 61 = .ok (.iconst 0, 1) := by decide +kernel
theorem dX12_isDone_62 : decode cX12_isDone 62 = .ok (.iload_n 2, 1) := by decide +kernel
theorem dX12_isDone_63 : decode cX12_isDone 63 = .ok (.iload_n 3, 1) := by decide +kernel
theorem dX12_isDone_64 : decode cX12_isDone 64 = .ok (.invokestatic 319, 3) := by decide +kernel
theorem dX12_isDone_67 : decode cX12_isDone 67 = .ok (.iload 4, 2) := by decide +kernel
theorem dX12_isDone_69 : decode cX12_isDone 69 = .ok (.invokevirtual 352, 3) := by decide +kernel
theorem dX12_isDone_72 : decode cX12_isDone 72 = .ok (.ireturn, 1) := by decide +kernel
theorem dX12_isDone_73 : decode cX12_isDone 73 = .ok (.iload_n 1, 1) := by decide +kernel
theorem dX12_isDone_74 : decode cX12_isDone 74 = .ok (.iconst 4, 1) := by decide +kernel
theorem dX12_isDone_75 : decode cX12_isDone 75 = .ok (.if_icmp .ne 12, 3) := by decide +kernel
theorem dX12_isDone_78 : decode cX12_isDone 78 = .ok (.aload_n 0, 1) := by decide +kernel
theorem dX12_isDone_79 : decode cX12_isDone 79 = .ok (.iload_n 2, 1) := by decide +kernel
theorem dX12_isDone_80 : decode cX12_isDone 80 = .ok (.iload_n 3, 1) := by decide +kernel
theorem dX12_isDone_81 : decode cX12_isDone 81 = .ok (.iload 4, 2) := by decide +kernel
theorem dX12_isDone_83 : decode cX12_isDone 83 = .ok (.invokevirtual 356, 3) := by decide +kernel
theorem dX12_isDone_86 : decode cX12_isDone 86 = .ok (.ireturn, 1) := by decide +kernel
theorem dX12_isDone_87 : decode cX12_isDone 87 = .ok (.aload_n 0, 1) := by decide +kernel
theorem dX12_isDone_88 : decode cX12_isDone 88 = .ok (.getfield 62, 3) := by decide +kernel
theorem dX12_isDone_91 : decode cX12_isDone 91 = .ok (.sipush 174, 3) := by decide +kernel
theorem dX12_isDone_94 : decode cX12_isDone 94 = .ok (.iaload, 1) := by decide +kernel
theorem dX12_isDone_95 : decode cX12_isDone 95 = .ok (.sipush 400, 3) := by decide +kernel
theorem dX12_isDone_98 : decode cX12_isDone 98 = .ok (.if_icmp .lt 5, 3) := by decide +kernel
theorem dX12_isDone_101 : decode cX12_isDone 101 = .ok (.iconst 0, 1) := by decide +kernel
theorem dX12_isDone_102 : decode cX12_isDone 102 = .ok (.ireturn, 1) := by decide +kernel
theorem dX12_isDone_103 : decode cX12_isDone 103 = .ok (.aload_n 0, 1) := by decide +kernel
theorem dX12_isDone_104 : decode cX12_isDone 104 = .ok (.invokevirtual 359, 3) := by decide +kernel
theorem dX12_isDone_107 : decode cX12_isDone 107 = .ok (.iconst 1, 1) := by decide +kernel
theorem dX12_isDone_108 : decode cX12_isDone 108 = .ok (.ireturn, 1) := by decide +kernel
theorem dX12_turnsNow_0 : decode cX12_turnsNow 0 = .ok (.aload_n 0, 1) := by decide +kernel
theorem dX12_turnsNow_1 : decode cX12_turnsNow 1 = .ok (.getfield 163, 3) := by decide +kernel
theorem dX12_turnsNow_4 : decode cX12_turnsNow 4 = .ok (.ifCond .ne 21, 3) := by decide +kernel
theorem dX12_turnsNow_7 : decode cX12_turnsNow 7 = .ok (.aload_n 0, 1) := by decide +kernel
theorem dX12_turnsNow_8 : decode cX12_turnsNow 8 = .ok (.getfield 50, 3) := by decide +kernel
theorem dX12_turnsNow_11 : decode cX12_turnsNow 11 = .ok (.iconst 0, 1) := by decide +kernel
theorem dX12_turnsNow_12 : decode cX12_turnsNow 12 = .ok (.iaload, 1) := by decide +kernel
theorem dX12_turnsNow_13 : decode cX12_turnsNow 13 = .ok (.iconst 1, 1) := by decide +kernel
theorem dX12_turnsNow_14 : decode cX12_turnsNow 14 = .ok (.iadd, 1) := by decide +kernel
theorem dX12_turnsNow_15 : decode cX12_turnsNow 15 = .ok (.aload_n 0, 1) := by decide +kernel
theorem dX12_turnsNow_16 : decode cX12_turnsNow 16 = .ok (.getfield 50, 3) := by decide +kernel
theorem dX12_turnsNow_19 : decode cX12_turnsNow 19 = .ok (.iconst 2, 1) := by decide +kernel
theorem dX12_turnsNow_20 : decode cX12_turnsNow 20 = .ok (.iaload, 1) := by decide +kernel
theorem dX12_turnsNow_21 : decode cX12_turnsNow 21 = .ok (.imul, 1) := by decide +kernel
theorem dX12_turnsNow_22 : decode cX12_turnsNow 22 = .ok (.goto 7, 3) := by decide +kernel
theorem dX12_turnsNow_25 : decode cX12_turnsNow 25 = .ok (.aload_n 0, 1) := by decide +kernel
theorem dX12_turnsNow_26 : decode cX12_turnsNow 26 = .ok (.invokevirtual 269, 3) := by decide +kernel
theorem dX12_turnsNow_29 : decode cX12_turnsNow 29 = .ok (.istore_n 1, 1) := by decide +kernel
theorem dX12_turnsNow_30 : decode cX12_turnsNow 30 = .ok (.iload_n 1, 1) := by decide +kernel
theorem dX12_turnsNow_31 : decode cX12_turnsNow 31 = .ok (.ifCond .ge 7, 3) := by decide +kernel
theorem dX12_turnsNow_34 : decode cX12_turnsNow 34 = .ok (.iconst 0, 1) := by decide +kernel
theorem dX12_turnsNow_35 : decode cX12_turnsNow 35 = .ok (.goto 21, 3) := by decide +kernel
theorem dX12_turnsNow_38 : decode cX12_turnsNow 38 = .ok (.iload_n 1, 1) := by decide +kernel
theorem dX12_turnsNow_39 : decode cX12_turnsNow 39 = .ok (.aload_n 0, 1) := by decide +kernel
theorem dX12_turnsNow_40 : decode cX12_turnsNow 40 = .ok (.getfield 156, 3) := by decide +kernel
theorem dX12_turnsNow_43 : decode cX12_turnsNow 43 = .ok (.if_icmp .lt 12, 3) := by decide +kernel
theorem dX12_turnsNow_46 : decode cX12_turnsNow 46 = .ok (.aload_n 0, 1) := by decide +kernel
theorem dX12_turnsNow_47 : decode cX12_turnsNow 47 = .ok (.getfield 156, 3) := by decide +kernel
theorem dX12_turnsNow_50 : decode cX12_turnsNow 50 = .ok (.iconst 1, 1) := by decide +kernel
theorem dX12_turnsNow_51 : decode cX12_turnsNow 51 = .ok (.isub, 1) := by decide +kernel
theorem dX12_turnsNow_52 : decode cX12_turnsNow 52 = .ok (.goto 4, 3) := by decide +kernel
theorem dX12_turnsNow_55 : decode cX12_turnsNow 55 = .ok (.iload_n 1, 1) := by decide +kernel
theorem dX12_turnsNow_56 : decode cX12_turnsNow 56 = .ok (.ireturn, 1) := by decide +kernel
theorem dX12_sign_0 : decode cX12_sign 0 = .ok (.aload_n 0, 1) := by decide +kernel
theorem dX12_sign_1 : decode cX12_sign 1 = .ok (.invokevirtual 127, 3) := by decide +kernel
theorem dX12_sign_4 : decode cX12_sign 4 = .ok (.ifCond .eq 20, 3) := by decide +kernel
theorem dX12_sign_7 : decode cX12_sign 7 = .ok (.aload_n 0, 1) := by decide +kernel
theorem dX12_sign_8 : decode cX12_sign 8 = .ok (.invokevirtual 110, 3) := by decide +kernel
theorem dX12_sign_11 : decode cX12_sign 11 = .ok (.iload_n 1, 1) := by decide +kernel
theorem dX12_sign_12 : decode cX12_sign 12 = .ok (.if_icmp .eq 12, 3) := by decide +kernel
theorem dX12_sign_15 : decode cX12_sign 15 = .ok (.aload_n 0, 1) := by decide +kernel
theorem dX12_sign_16 : decode cX12_sign 16 = .ok (.iconst 1, 1) := by decide +kernel
theorem dX12_sign_17 : decode cX12_sign 17 = .ok (.aload_n 0, 1) := by decide +kernel
theorem dX12_sign_18 : decode cX12_sign 18 = .ok (.getfield 104, 3) := by decide +kernel
theorem dX12_sign_21 : decode cX12_sign 21 = .ok (.invokevirtual 134, 3) := by decide +kernel
theorem dX12_sign_24 : decode cX12_sign 24 = .ok (.aload_n 0, 1) := by decide +kernel
theorem dX12_sign_25 : decode cX12_sign 25 = .ok (.invokevirtual 127, 3) := by decide +kernel
theorem dX12_sign_28 : decode cX12_sign 28 = .ok (.ifCond .eq 13, 3) := by decide +kernel
theorem dX12_sign_31 : decode cX12_sign 31 = .ok (.aload_n 0, 1) := by decide +kernel
theorem dX12_sign_32 : decode cX12_sign 32 = .ok (.dup, 1) := by decide +kernel
theorem dX12_sign_33 : decode cX12_sign 33 = .ok (.getfield 104, 3) := by decide +kernel
theorem dX12_sign_36 : decode cX12_sign 36 = .ok (.iconst 1, 1) := by decide +kernel
theorem dX12_sign_37 : decode cX12_sign 37 = .ok (.iadd, 1) := by decide +kernel
theorem dX12_sign_38 : decode cX12_sign 38 = .ok (.putfield 104, 3) := by decide +kernel
theorem dX12_sign_41 : decode cX12_sign 41 = .ok (.return_, 1) := by decide +kernel
theorem dX12_begins_0 : decode cX12_begins 0 = .ok (.aload_n 0, 1) := by decide +kernel
theorem dX12_begins_1 : decode cX12_begins 1 = .ok (.iconst 0, 1) := by decide +kernel
theorem dX12_begins_2 : decode cX12_begins 2 = .ok (.putfield 95, 3) := by decide +kernel
theorem dX12_begins_5 : decode cX12_begins 5 = .ok (.aload_n 0, 1) := by decide +kernel
theorem dX12_begins_6 : decode cX12_begins 6 = .ok (.iconst (-1), 1) := by decide +kernel
theorem dX12_begins_7 : decode cX12_begins 7 = .ok (.putfield 17, 3) := by decide +kernel
theorem dX12_begins_10 : decode cX12_begins 10 = .ok (.aload_n 0, 1) := by decide +kernel
theorem dX12_begins_11 : decode cX12_begins 11 = .ok (.iload_n 1, 1) := by decide +kernel
theorem dX12_begins_12 : decode cX12_begins 12 = .ok (.putfield 107, 3) := by decide +kernel
theorem dX12_begins_15 : decode cX12_begins 15 = .ok (.aload_n 0, 1) := by decide +kernel
theorem dX12_begins_16 : decode cX12_begins 16 = .ok (.iconst 0, 1) := by decide +kernel
theorem dX12_begins_17 : decode cX12_begins 17 = .ok (.putfield 104, 3) := by decide +kernel
theorem dX12_begins_20 : decode cX12_begins 20 = .ok (.aload_n 0, 1) := by decide +kernel
theorem dX12_begins_21 : decode cX12_begins 21 = .ok (.iconst (-1), 1) := by decide +kernel
theorem dX12_begins_22 : decode cX12_begins 22 = .ok (.putfield 98, 3) := by decide +kernel
theorem dX12_begins_25 : decode cX12_begins 25 = .ok (.aload_n 0, 1) := by decide +kernel
theorem dX12_begins_26 : decode cX12_begins 26 = .ok (.iconst 0, 1) := by decide +kernel
theorem dX12_begins_27 : decode cX12_begins 27 = .ok (.putfield 138, 3) := by decide +kernel
theorem dX12_begins_30 : decode cX12_begins 30 = .ok (.return_, 1) := by decide +kernel
theorem dX12_emit_0 : decode cX12_emit 0 = .ok (.aload_n 0, 1) := by decide +kernel
theorem dX12_emit_1 : decode cX12_emit 1 = .ok (.invokevirtual 127, 3) := by decide +kernel
theorem dX12_emit_4 : decode cX12_emit 4 = .ok (.ifCond .ne 4, 3) := by decide +kernel
theorem dX12_emit_7 : decode cX12_emit 7 = .ok (.return_, 1) := by decide +kernel
theorem dX12_emit_8 : decode cX12_emit 8 = .ok (.aload_n 0, 1) := by decide +kernel
theorem dX12_emit_9 : decode cX12_emit 9 = .ok (.getfield 35, 3) := by decide +kernel
theorem dX12_emit_12 : decode cX12_emit 12 = .ok (.aload_n 0, 1) := by decide +kernel
theorem dX12_emit_13 : decode cX12_emit 13 = .ok (.getfield 223, 3) := by decide +kernel
theorem dX12_emit_16 : decode cX12_emit 16 = .ok (.iload_n 1, 1) := by decide +kernel
theorem dX12_emit_17 : decode cX12_emit 17 = .ok (.iastore, 1) := by decide +kernel
theorem dX12_emit_18 : decode cX12_emit 18 = .ok (.aload_n 0, 1) := by decide +kernel
theorem dX12_emit_19 : decode cX12_emit 19 = .ok (.getfield 38, 3) := by decide +kernel
theorem dX12_emit_22 : decode cX12_emit 22 = .ok (.aload_n 0, 1) := by decide +kernel
theorem dX12_emit_23 : decode cX12_emit 23 = .ok (.getfield 223, 3) := by decide +kernel
theorem dX12_emit_26 : decode cX12_emit 26 = .ok (.iload_n 2, 1) := by decide +kernel
theorem dX12_emit_27 : decode cX12_emit 27 = .ok (.iastore, 1) := by decide +kernel
theorem dX12_emit_28 : decode cX12_emit 28 = .ok (.aload_n 0, 1) := by decide +kernel
theorem dX12_emit_29 : decode cX12_emit 29 = .ok (.dup, 1) := by decide +kernel
theorem dX12_emit_30 : decode cX12_emit 30 = .ok (.getfield 223, 3) := by decide +kernel
theorem dX12_emit_33 : decode cX12_emit 33 = .ok (.iconst 1, 1) := by decide +kernel
theorem dX12_emit_34 : decode cX12_emit 34 = .ok (.iadd, 1) := by decide +kernel
theorem dX12_emit_35 : decode cX12_emit 35 = .ok (.putfield 223, 3) := by decide +kernel
theorem dX12_emit_38 : decode cX12_emit 38 = .ok (.return_, 1) := by decide +kernel
theorem dX12_wrong_0 : decode cX12_wrong 0 = .ok (.aload_n 0, 1) := by decide +kernel
theorem dX12_wrong_1 : decode cX12_wrong 1 = .ok (.getfield 98, 3) := by decide +kernel
theorem dX12_wrong_4 : decode cX12_wrong 4 = .ok (.iconst (-1), 1) := by decide +kernel
theorem dX12_wrong_5 : decode cX12_wrong 5 = .ok (.if_icmp .eq 4, 3) := by decide +kernel
theorem dX12_wrong_8 : decode cX12_wrong 8 = .ok (.return_, 1) := by decide +kernel
theorem dX12_wrong_9 : decode cX12_wrong 9 = .ok (.aload_n 0, 1) := by decide +kernel
theorem dX12_wrong_10 : decode cX12_wrong 10 = .ok (.iload_n 2, 1) := by decide +kernel
theorem dX12_wrong_11 : decode cX12_wrong 11 = .ok (.putfield 98, 3) := by decide +kernel
theorem dX12_wrong_14 : decode cX12_wrong 14 = .ok (.aload_n 0, 1) := by decide +kernel
theorem dX12_wrong_15 : decode cX12_wrong 15 = .ok (.iload_n 1, 1) := by decide +kernel
theorem dX12_wrong_16 : decode cX12_wrong 16 = .ok (.putfield 101, 3) := by decide +kernel
theorem dX12_wrong_19 : decode cX12_wrong 19 = .ok (.return_, 1) := by decide +kernel
theorem dX12_passes_0 : decode cX12_passes 0 = .ok (.bipush 42, 2) := by decide +kernel
theorem dX12_passes_2 : decode cX12_passes 2 = .ok (.istore_n 1, 1) := by decide +kernel
theorem dX12_passes_3 : decode cX12_passes 3 = .ok (.iload_n 1, 1) := by decide +kernel
theorem dX12_passes_4 : decode cX12_passes 4 = .ok (.bipush 84, 2) := by decide +kernel
theorem dX12_passes_6 : decode cX12_passes 6 = .ok (.if_icmp .ge 32, 3) := by decide +kernel
theorem dX12_passes_9 : decode cX12_passes 9 = .ok (.aload_n 0, 1) := by decide +kernel
theorem dX12_passes_10 : decode cX12_passes 10 = .ok (.getfield 62, 3) := by decide +kernel
theorem dX12_passes_13 : decode cX12_passes 13 = .ok (.iload_n 1, 1) := by decide +kernel
theorem dX12_passes_14 : decode cX12_passes 14 = .ok (.dup2, 1) := by decide +kernel
theorem dX12_passes_15 : decode cX12_passes 15 = .ok (.iaload, 1) := by decide +kernel
theorem dX12_passes_16 : decode cX12_passes 16 = .ok (.aload_n 0, 1) := by decide +kernel
theorem dX12_passes_17 : decode cX12_passes 17 = .ok (.getfield 62, 3) := by decide +kernel
theorem dX12_passes_20 : decode cX12_passes 20 = .ok (.iload_n 1, 1) := by decide +kernel
theorem dX12_passes_21 : decode cX12_passes 21 = .ok (.iaload, 1) := by decide +kernel
theorem dX12_passes_22 : decode cX12_passes 22 = .ok (.ifCond .le 7, 3) := by decide +kernel
theorem dX12_passes_25 : decode cX12_passes 25 = .ok (.iconst 1, 1) := by decide +kernel
theorem dX12_passes_26 : decode cX12_passes 26 = .ok (.goto 4, 3) := by decide +kernel
theorem dX12_passes_29 : decode cX12_passes 29 = .ok (.iconst 0, 1) := by decide +kernel
theorem dX12_passes_30 : decode cX12_passes 30 = .ok (.isub, 1) := by decide +kernel
theorem dX12_passes_31 : decode cX12_passes 31 = .ok (.iastore, 1) := by decide +kernel
theorem dX12_passes_32 : decode cX12_passes 32 = .ok (.iinc 1 1, 3) := by decide +kernel
theorem dX12_passes_35 : decode cX12_passes 35 = .ok (.goto (-32), 3) := by decide +kernel
theorem dX12_passes_38 : decode cX12_passes 38 = .ok (.aload_n 0, 1) := by decide +kernel
theorem dX12_passes_39 : decode cX12_passes 39 = .ok (.getfield 62, 3) := by decide +kernel
theorem dX12_passes_42 : decode cX12_passes 42 = .ok (.sipush 174, 3) := by decide +kernel
theorem dX12_passes_45 : decode cX12_passes 45 = .ok (.dup2, 1) := by decide +kernel
theorem dX12_passes_46 : decode cX12_passes 46 = .ok (.iaload, 1) := by decide +kernel
theorem dX12_passes_47 : decode cX12_passes 47 = .ok (.iconst 1, 1) := by decide +kernel
theorem dX12_passes_48 : decode cX12_passes 48 = .ok (.iadd, 1) := by decide +kernel
theorem dX12_passes_49 : decode cX12_passes 49 = .ok (.iastore, 1) := by decide +kernel
theorem dX12_passes_50 : decode cX12_passes 50 = .ok (.return_, 1) := by decide +kernel
theorem inU_X12 : ∀ w ∈ u_ws RX12 TX12 50, w ∈ BIG := by
  have h : u_ws RX12 TX12 50 = [1407, 1409, 1411, 1413, 1415, 1417, 1419, 1421, 1423, 1425, 1427, 1429, 1431, 1433, 1435, 1437, 1439, 1441, 1443, 1445, 1447, 1449, 1451, 1453, 1455, 1457, 1459, 1461, 1463, 1465, 1467, 1469, 1471, 1473, 1475, 1477, 1479, 1481, 1483, 1485, 1487, 1489, 1491, 1493, 1495, 1497, 1499, 1501, 1503, 1505].filterMap (fun i => lw_tbl[i]?) := by decide +kernel
  have g : (u_ws RX12 TX12 50).all goodWord = true := by decide +kernel
  intro w hw
  refine inB ?_ (List.all_eq_true.mp g w hw)
  rw [h] at hw
  obtain ⟨i, -, hi⟩ := List.mem_filterMap.mp hw
  exact List.mem_of_getElem? hi
theorem fl_X12_3 : FL RX12 3 12 0 := ⟨RX12, TX12, 50, rfl, rfl, by decide, inU_X12, Or.inl (inBi 1357 (by decide +kernel))⟩
theorem fp_X12_3 : FP RX12 3 12 0 := ⟨RX12, TX12, 50, tyX12, rfl, rfl, by decide, inU_X12, Or.inl (inBi 1357 (by decide +kernel)), tyX12_ok, nmX12, rfl, by decide +kernel⟩
theorem fl_X12_7 : FL RX12 7 12 1 := ⟨RX12, TX12, 50, rfl, rfl, by decide, inU_X12, Or.inl (inBi 1358 (by decide +kernel))⟩
theorem fl_X12_95 : FL RX12 95 12 2 := ⟨RX12, TX12, 50, rfl, rfl, by decide, inU_X12, Or.inl (inBi 1359 (by decide +kernel))⟩
theorem fl_X12_20 : FL RX12 20 12 9 := ⟨RX12, TX12, 50, rfl, rfl, by decide, inU_X12, Or.inl (inBi 1366 (by decide +kernel))⟩
theorem fp_X12_95 : FP RX12 95 12 2 := ⟨RX12, TX12, 50, tyX12, rfl, rfl, by decide, inU_X12, Or.inl (inBi 1359 (by decide +kernel)), tyX12_ok, nmX12, rfl, by decide +kernel⟩
theorem fl_X12_98 : FL RX12 98 12 5 := ⟨RX12, TX12, 50, rfl, rfl, by decide, inU_X12, Or.inl (inBi 1362 (by decide +kernel))⟩
theorem fp_X12_98 : FP RX12 98 12 5 := ⟨RX12, TX12, 50, tyX12, rfl, rfl, by decide, inU_X12, Or.inl (inBi 1362 (by decide +kernel)), tyX12_ok, nmX12, rfl, by decide +kernel⟩
theorem fp_X12_101 : FP RX12 101 12 6 := ⟨RX12, TX12, 50, tyX12, rfl, rfl, by decide, inU_X12, Or.inl (inBi 1363 (by decide +kernel)), tyX12_ok, nmX12, rfl, by decide +kernel⟩
theorem fl_X12_104 : FL RX12 104 12 4 := ⟨RX12, TX12, 50, rfl, rfl, by decide, inU_X12, Or.inl (inBi 1361 (by decide +kernel))⟩
theorem fl_X12_107 : FL RX12 107 12 3 := ⟨RX12, TX12, 50, rfl, rfl, by decide, inU_X12, Or.inl (inBi 1360 (by decide +kernel))⟩
theorem fp_X12_104 : FP RX12 104 12 4 := ⟨RX12, TX12, 50, tyX12, rfl, rfl, by decide, inU_X12, Or.inl (inBi 1361 (by decide +kernel)), tyX12_ok, nmX12, rfl, by decide +kernel⟩
set_option maxRecDepth 20000 in
theorem cw_X12_isSmall : Cond.code yX12_isSmall cX12_isSmall 1 (some .boolean) ∈ BIG := inB (List.mem_of_getElem? (i := 1546) rfl) rfl
theorem ms_X12_114 : MS RX12 114 yX12_isSmall cX12_isSmall 1 (some .boolean) 1 := ⟨Or.inl (inBi 1544 (by decide +kernel)), inBi 1545 (by decide +kernel), inBi 107 (by decide +kernel), cw_X12_isSmall, by decide +kernel, by decide +kernel, by decide +kernel⟩
set_option maxRecDepth 20000 in
theorem cw_X12_here : Cond.code yX12_here cX12_here 1 (some .int) ∈ BIG := inB (List.mem_of_getElem? (i := 1539) rfl) rfl
theorem mv_X12_110 : MV RX12 110 yX12_here cX12_here 1 (some .int) 0 := ⟨inBi 1536 (by decide +kernel), inBi 1538 (by decide +kernel), inBi 33 (by decide +kernel), inBi 107 (by decide +kernel), cw_X12_here, by decide +kernel, by decide +kernel, by decide +kernel⟩
set_option maxRecDepth 20000 in
theorem cw_X12_wrong : Cond.code yX12_wrong cX12_wrong 3 none ∈ BIG := inB (List.mem_of_getElem? (i := 1561) rfl) rfl
theorem mv_X12_134 : MV RX12 134 yX12_wrong cX12_wrong 3 none 2 := ⟨inBi 1558 (by decide +kernel), inBi 1560 (by decide +kernel), inBi 35 (by decide +kernel), inBi 107 (by decide +kernel), cw_X12_wrong, by decide +kernel, by decide +kernel, by decide +kernel⟩
set_option maxRecDepth 20000 in
theorem cw_X12_isDigit : Cond.code yX12_isDigit cX12_isDigit 1 (some .boolean) ∈ BIG := inB (List.mem_of_getElem? (i := 1580) rfl) rfl
theorem ms_X12_131 : MS RX12 131 yX12_isDigit cX12_isDigit 1 (some .boolean) 1 := ⟨Or.inl (inBi 1578 (by decide +kernel)), inBi 1579 (by decide +kernel), inBi 107 (by decide +kernel), cw_X12_isDigit, by decide +kernel, by decide +kernel, by decide +kernel⟩
set_option maxRecDepth 20000 in
theorem cw_X12_fine : Cond.code yX12_fine cX12_fine 1 (some .boolean) ∈ BIG := inB (List.mem_of_getElem? (i := 1531) rfl) rfl
theorem mv_X12_127 : MV RX12 127 yX12_fine cX12_fine 1 (some .boolean) 0 := ⟨inBi 1528 (by decide +kernel), inBi 1530 (by decide +kernel), inBi 31 (by decide +kernel), inBi 107 (by decide +kernel), cw_X12_fine, by decide +kernel, by decide +kernel, by decide +kernel⟩
theorem fp_X12_17 : FP RX12 17 12 8 := ⟨RX12, TX12, 50, tyX12, rfl, rfl, by decide, inU_X12, Or.inl (inBi 1365 (by decide +kernel)), tyX12_ok, nmX12, rfl, by decide +kernel⟩
theorem fp_X12_107 : FP RX12 107 12 3 := ⟨RX12, TX12, 50, tyX12, rfl, rfl, by decide, inU_X12, Or.inl (inBi 1360 (by decide +kernel)), tyX12_ok, nmX12, rfl, by decide +kernel⟩
theorem fp_X12_138 : FP RX12 138 12 7 := ⟨RX12, TX12, 50, tyX12, rfl, rfl, by decide, inU_X12, Or.inl (inBi 1364 (by decide +kernel)), tyX12_ok, nmX12, rfl, by decide +kernel⟩
theorem fl_X12_101 : FL RX12 101 12 6 := ⟨RX12, TX12, 50, rfl, rfl, by decide, inU_X12, Or.inl (inBi 1363 (by decide +kernel))⟩
theorem fl_X12_17 : FL RX12 17 12 8 := ⟨RX12, TX12, 50, rfl, rfl, by decide, inU_X12, Or.inl (inBi 1365 (by decide +kernel))⟩
theorem fp_X12_141 : FP RX12 141 12 14 := ⟨RX12, TX12, 50, tyX12, rfl, rfl, by decide, inU_X12, Or.inl (inBi 1371 (by decide +kernel)), tyX12_ok, nmX12, rfl, by decide +kernel⟩
theorem fp_X12_144 : FP RX12 144 12 15 := ⟨RX12, TX12, 50, tyX12, rfl, rfl, by decide, inU_X12, Or.inl (inBi 1372 (by decide +kernel)), tyX12_ok, nmX12, rfl, by decide +kernel⟩
theorem fp_X12_147 : FP RX12 147 12 16 := ⟨RX12, TX12, 50, tyX12, rfl, rfl, by decide, inU_X12, Or.inl (inBi 1373 (by decide +kernel)), tyX12_ok, nmX12, rfl, by decide +kernel⟩
theorem fl_X12_141 : FL RX12 141 12 14 := ⟨RX12, TX12, 50, rfl, rfl, by decide, inU_X12, Or.inl (inBi 1371 (by decide +kernel))⟩
theorem fp_X12_150 : FP RX12 150 12 17 := ⟨RX12, TX12, 50, tyX12, rfl, rfl, by decide, inU_X12, Or.inl (inBi 1374 (by decide +kernel)), tyX12_ok, nmX12, rfl, by decide +kernel⟩
theorem fl_X12_144 : FL RX12 144 12 15 := ⟨RX12, TX12, 50, rfl, rfl, by decide, inU_X12, Or.inl (inBi 1372 (by decide +kernel))⟩
theorem fp_X12_153 : FP RX12 153 12 18 := ⟨RX12, TX12, 50, tyX12, rfl, rfl, by decide, inU_X12, Or.inl (inBi 1375 (by decide +kernel)), tyX12_ok, nmX12, rfl, by decide +kernel⟩
theorem fl_X12_147 : FL RX12 147 12 16 := ⟨RX12, TX12, 50, rfl, rfl, by decide, inU_X12, Or.inl (inBi 1373 (by decide +kernel))⟩
theorem fp_X12_156 : FP RX12 156 12 19 := ⟨RX12, TX12, 50, tyX12, rfl, rfl, by decide, inU_X12, Or.inl (inBi 1376 (by decide +kernel)), tyX12_ok, nmX12, rfl, by decide +kernel⟩
theorem fl_X12_23 : FL RX12 23 12 10 := ⟨RX12, TX12, 50, rfl, rfl, by decide, inU_X12, Or.inl (inBi 1367 (by decide +kernel))⟩
theorem fl_X12_29 : FL RX12 29 12 12 := ⟨RX12, TX12, 50, rfl, rfl, by decide, inU_X12, Or.inl (inBi 1369 (by decide +kernel))⟩
theorem fl_X12_26 : FL RX12 26 12 11 := ⟨RX12, TX12, 50, rfl, rfl, by decide, inU_X12, Or.inl (inBi 1368 (by decide +kernel))⟩
theorem fl_X12_32 : FL RX12 32 12 13 := ⟨RX12, TX12, 50, rfl, rfl, by decide, inU_X12, Or.inl (inBi 1370 (by decide +kernel))⟩
theorem fp_X12_163 : FP RX12 163 12 26 := ⟨RX12, TX12, 50, tyX12, rfl, rfl, by decide, inU_X12, Or.inl (inBi 1383 (by decide +kernel)), tyX12_ok, nmX12, rfl, by decide +kernel⟩
theorem fp_X12_166 : FP RX12 166 12 42 := ⟨RX12, TX12, 50, tyX12, rfl, rfl, by decide, inU_X12, Or.inl (inBi 1399 (by decide +kernel)), tyX12_ok, nmX12, rfl, by decide +kernel⟩
theorem fp_X12_169 : FP RX12 169 12 31 := ⟨RX12, TX12, 50, tyX12, rfl, rfl, by decide, inU_X12, Or.inl (inBi 1388 (by decide +kernel)), tyX12_ok, nmX12, rfl, by decide +kernel⟩
theorem fp_X12_172 : FP RX12 172 12 49 := ⟨RX12, TX12, 50, tyX12, rfl, rfl, by decide, inU_X12, Or.inl (inBi 1406 (by decide +kernel)), tyX12_ok, nmX12, rfl, by decide +kernel⟩
theorem fp_X12_175 : FP RX12 175 12 32 := ⟨RX12, TX12, 50, tyX12, rfl, rfl, by decide, inU_X12, Or.inl (inBi 1389 (by decide +kernel)), tyX12_ok, nmX12, rfl, by decide +kernel⟩
theorem fl_X12_59 : FL RX12 59 12 36 := ⟨RX12, TX12, 50, rfl, rfl, by decide, inU_X12, Or.inl (inBi 1393 (by decide +kernel))⟩
theorem fl_X12_150 : FL RX12 150 12 17 := ⟨RX12, TX12, 50, rfl, rfl, by decide, inU_X12, Or.inl (inBi 1374 (by decide +kernel))⟩
set_option maxRecDepth 20000 in
theorem cw_X12_copies : Cond.code yX12_copies cX12_copies 5 none ∈ BIG := inB (List.mem_of_getElem? (i := 1356) rfl) rfl
theorem mv_X12_159 : MV RX12 159 yX12_copies cX12_copies 5 none 3 := ⟨inBi 1353 (by decide +kernel), inBi 1355 (by decide +kernel), inBi 28 (by decide +kernel), inBi 107 (by decide +kernel), cw_X12_copies, by decide +kernel, by decide +kernel, by decide +kernel⟩
theorem fl_X12_35 : FL RX12 35 12 20 := ⟨RX12, TX12, 50, rfl, rfl, by decide, inU_X12, Or.inl (inBi 1377 (by decide +kernel))⟩
theorem fl_X12_223 : FL RX12 223 12 25 := ⟨RX12, TX12, 50, rfl, rfl, by decide, inU_X12, Or.inl (inBi 1382 (by decide +kernel))⟩
theorem fl_X12_38 : FL RX12 38 12 21 := ⟨RX12, TX12, 50, rfl, rfl, by decide, inU_X12, Or.inl (inBi 1378 (by decide +kernel))⟩
theorem fp_X12_223 : FP RX12 223 12 25 := ⟨RX12, TX12, 50, tyX12, rfl, rfl, by decide, inU_X12, Or.inl (inBi 1382 (by decide +kernel)), tyX12_ok, nmX12, rfl, by decide +kernel⟩
theorem fl_X12_138 : FL RX12 138 12 7 := ⟨RX12, TX12, 50, rfl, rfl, by decide, inU_X12, Or.inl (inBi 1364 (by decide +kernel))⟩
theorem fl_X12_47 : FL RX12 47 12 24 := ⟨RX12, TX12, 50, rfl, rfl, by decide, inU_X12, Or.inl (inBi 1381 (by decide +kernel))⟩
theorem fl_X12_163 : FL RX12 163 12 26 := ⟨RX12, TX12, 50, rfl, rfl, by decide, inU_X12, Or.inl (inBi 1383 (by decide +kernel))⟩
theorem fl_X12_41 : FL RX12 41 12 22 := ⟨RX12, TX12, 50, rfl, rfl, by decide, inU_X12, Or.inl (inBi 1379 (by decide +kernel))⟩
set_option maxRecDepth 20000 in
theorem cw_X12_both : Cond.code yX12_both cX12_both 3 (some .int) ∈ BIG := inB (List.mem_of_getElem? (i := 1707) rfl) rfl
theorem ms_X12_265 : MS RX12 265 yX12_both cX12_both 3 (some .int) 3 := ⟨Or.inl (inBi 1705 (by decide +kernel)), inBi 1706 (by decide +kernel), inBi 107 (by decide +kernel), cw_X12_both, by decide +kernel, by decide +kernel, by decide +kernel⟩
theorem fl_X12_50 : FL RX12 50 12 27 := ⟨RX12, TX12, 50, rfl, rfl, by decide, inU_X12, Or.inl (inBi 1384 (by decide +kernel))⟩
theorem fl_X12_44 : FL RX12 44 12 23 := ⟨RX12, TX12, 50, rfl, rfl, by decide, inU_X12, Or.inl (inBi 1380 (by decide +kernel))⟩
theorem fl_X12_156 : FL RX12 156 12 19 := ⟨RX12, TX12, 50, rfl, rfl, by decide, inU_X12, Or.inl (inBi 1376 (by decide +kernel))⟩
set_option maxRecDepth 20000 in
theorem cw_X12_valueNow : Cond.code yX12_valueNow cX12_valueNow 4 (some .int) ∈ BIG := inB (List.mem_of_getElem? (i := 1704) rfl) rfl
theorem mv_X12_269 : MV RX12 269 yX12_valueNow cX12_valueNow 4 (some .int) 0 := ⟨inBi 1701 (by decide +kernel), inBi 1703 (by decide +kernel), inBi 63 (by decide +kernel), inBi 107 (by decide +kernel), cw_X12_valueNow, by decide +kernel, by decide +kernel, by decide +kernel⟩
theorem fl_X12_53 : FL RX12 53 12 28 := ⟨RX12, TX12, 50, rfl, rfl, by decide, inU_X12, Or.inl (inBi 1385 (by decide +kernel))⟩
theorem fl_X12_272 : FL RX12 272 12 30 := ⟨RX12, TX12, 50, rfl, rfl, by decide, inU_X12, Or.inl (inBi 1387 (by decide +kernel))⟩
theorem fp_X12_272 : FP RX12 272 12 30 := ⟨RX12, TX12, 50, tyX12, rfl, rfl, by decide, inU_X12, Or.inl (inBi 1387 (by decide +kernel)), tyX12_ok, nmX12, rfl, by decide +kernel⟩
set_option maxRecDepth 20000 in
theorem cw_X12_readNumber : Cond.code yX12_readNumber cX12_readNumber 6 (some .int) ∈ BIG := inB (List.mem_of_getElem? (i := 1577) rfl) rfl
theorem mv_X12_186 : MV RX12 186 yX12_readNumber cX12_readNumber 6 (some .int) 2 := ⟨inBi 1574 (by decide +kernel), inBi 1576 (by decide +kernel), inBi 39 (by decide +kernel), inBi 107 (by decide +kernel), cw_X12_readNumber, by decide +kernel, by decide +kernel, by decide +kernel⟩
theorem fl_X12_62 : FL RX12 62 12 37 := ⟨RX12, TX12, 50, rfl, rfl, by decide, inU_X12, Or.inl (inBi 1394 (by decide +kernel))⟩
set_option maxRecDepth 20000 in
theorem cw_X12_sumOf : Cond.code yX12_sumOf cX12_sumOf 5 (some .int) ∈ BIG := inB (List.mem_of_getElem? (i := 1688) rfl) rfl
theorem mv_X12_322 : MV RX12 322 yX12_sumOf cX12_sumOf 5 (some .int) 2 := ⟨inBi 1685 (by decide +kernel), inBi 1687 (by decide +kernel), inBi 59 (by decide +kernel), inBi 107 (by decide +kernel), cw_X12_sumOf, by decide +kernel, by decide +kernel, by decide +kernel⟩
set_option maxRecDepth 20000 in
theorem cw_X12_in : Cond.code yX12_in cX12_in 3 (some .int) ∈ BIG := inB (List.mem_of_getElem? (i := 1684) rfl) rfl
theorem ms_X12_319 : MS RX12 319 yX12_in cX12_in 3 (some .int) 3 := ⟨Or.inl (inBi 1682 (by decide +kernel)), inBi 1683 (by decide +kernel), inBi 107 (by decide +kernel), cw_X12_in, by decide +kernel, by decide +kernel, by decide +kernel⟩
set_option maxRecDepth 20000 in
theorem cw_X12_turnsNow : Cond.code yX12_turnsNow cX12_turnsNow 2 (some .int) ∈ BIG := inB (List.mem_of_getElem? (i := 1700) rfl) rfl
theorem mv_X12_325 : MV RX12 325 yX12_turnsNow cX12_turnsNow 2 (some .int) 0 := ⟨inBi 1697 (by decide +kernel), inBi 1699 (by decide +kernel), inBi 62 (by decide +kernel), inBi 107 (by decide +kernel), cw_X12_turnsNow, by decide +kernel, by decide +kernel, by decide +kernel⟩
set_option maxRecDepth 20000 in
theorem cw_X12_turnsOf : Cond.code yX12_turnsOf cX12_turnsOf 9 (some .int) ∈ BIG := inB (List.mem_of_getElem? (i := 1696) rfl) rfl
theorem mv_X12_331 : MV RX12 331 yX12_turnsOf cX12_turnsOf 9 (some .int) 8 := ⟨inBi 1693 (by decide +kernel), inBi 1695 (by decide +kernel), inBi 61 (by decide +kernel), inBi 107 (by decide +kernel), cw_X12_turnsOf, by decide +kernel, by decide +kernel, by decide +kernel⟩
set_option maxRecDepth 20000 in
theorem cw_X12_withinOf : Cond.code yX12_withinOf cX12_withinOf 2 (some .int) ∈ BIG := inB (List.mem_of_getElem? (i := 1681) rfl) rfl
theorem mv_X12_328 : MV RX12 328 yX12_withinOf cX12_withinOf 2 (some .int) 1 := ⟨inBi 1678 (by decide +kernel), inBi 1680 (by decide +kernel), inBi 58 (by decide +kernel), inBi 107 (by decide +kernel), cw_X12_withinOf, by decide +kernel, by decide +kernel, by decide +kernel⟩
theorem fl_X12_68 : FL RX12 68 12 39 := ⟨RX12, TX12, 50, rfl, rfl, by decide, inU_X12, Or.inl (inBi 1396 (by decide +kernel))⟩
set_option maxRecDepth 20000 in
theorem cw_X12_turnsBy : Cond.code yX12_turnsBy cX12_turnsBy 5 (some .int) ∈ BIG := inB (List.mem_of_getElem? (i := 1692) rfl) rfl
theorem mv_X12_338 : MV RX12 338 yX12_turnsBy cX12_turnsBy 5 (some .int) 4 := ⟨inBi 1689 (by decide +kernel), inBi 1691 (by decide +kernel), inBi 60 (by decide +kernel), inBi 107 (by decide +kernel), cw_X12_turnsBy, by decide +kernel, by decide +kernel, by decide +kernel⟩
set_option maxRecDepth 20000 in
theorem cw_X12_joinsAll : Cond.code yX12_joinsAll cX12_joinsAll 2 (some .boolean) ∈ BIG := inB (List.mem_of_getElem? (i := 1677) rfl) rfl
theorem mv_X12_335 : MV RX12 335 yX12_joinsAll cX12_joinsAll 2 (some .boolean) 1 := ⟨inBi 1674 (by decide +kernel), inBi 1676 (by decide +kernel), inBi 57 (by decide +kernel), inBi 107 (by decide +kernel), cw_X12_joinsAll, by decide +kernel, by decide +kernel, by decide +kernel⟩
set_option maxRecDepth 20000 in
theorem cw_X12_comesBack : Cond.code yX12_comesBack cX12_comesBack 6 (some .int) ∈ BIG := inB (List.mem_of_getElem? (i := 1715) rfl) rfl
theorem mv_X12_342 : MV RX12 342 yX12_comesBack cX12_comesBack 6 (some .int) 2 := ⟨inBi 1712 (by decide +kernel), inBi 1714 (by decide +kernel), inBi 65 (by decide +kernel), inBi 107 (by decide +kernel), cw_X12_comesBack, by decide +kernel, by decide +kernel, by decide +kernel⟩
set_option maxRecDepth 20000 in
theorem cw_X12_passes : Cond.code yX12_passes cX12_passes 2 none ∈ BIG := inB (List.mem_of_getElem? (i := 1727) rfl) rfl
theorem mv_X12_359 : MV RX12 359 yX12_passes cX12_passes 2 none 0 := ⟨inBi 1724 (by decide +kernel), inBi 1726 (by decide +kernel), inBi 68 (by decide +kernel), inBi 107 (by decide +kernel), cw_X12_passes, by decide +kernel, by decide +kernel, by decide +kernel⟩
set_option maxRecDepth 20000 in
theorem cw_X12_isSwapped : Cond.code yX12_isSwapped cX12_isSwapped 5 (some .boolean) ∈ BIG := inB (List.mem_of_getElem? (i := 1723) rfl) rfl
theorem mv_X12_356 : MV RX12 356 yX12_isSwapped cX12_isSwapped 5 (some .boolean) 3 := ⟨inBi 1720 (by decide +kernel), inBi 1722 (by decide +kernel), inBi 67 (by decide +kernel), inBi 107 (by decide +kernel), cw_X12_isSwapped, by decide +kernel, by decide +kernel, by decide +kernel⟩
set_option maxRecDepth 20000 in
theorem cw_X12_isMoved : Cond.code yX12_isMoved cX12_isMoved 4 (some .boolean) ∈ BIG := inB (List.mem_of_getElem? (i := 1719) rfl) rfl
theorem mv_X12_352 : MV RX12 352 yX12_isMoved cX12_isMoved 4 (some .boolean) 3 := ⟨inBi 1716 (by decide +kernel), inBi 1718 (by decide +kernel), inBi 66 (by decide +kernel), inBi 107 (by decide +kernel), cw_X12_isMoved, by decide +kernel, by decide +kernel, by decide +kernel⟩
set_option maxRecDepth 20000 in
theorem cw_X12_isJoined : Cond.code yX12_isJoined cX12_isJoined 5 (some .boolean) ∈ BIG := inB (List.mem_of_getElem? (i := 1711) rfl) rfl
theorem mv_X12_349 : MV RX12 349 yX12_isJoined cX12_isJoined 5 (some .boolean) 2 := ⟨inBi 1708 (by decide +kernel), inBi 1710 (by decide +kernel), inBi 64 (by decide +kernel), inBi 107 (by decide +kernel), cw_X12_isJoined, by decide +kernel, by decide +kernel, by decide +kernel⟩
set_option maxRecDepth 20000 in
theorem cw_X12_isParted : Cond.code yX12_isParted cX12_isParted 4 (some .boolean) ∈ BIG := inB (List.mem_of_getElem? (i := 1673) rfl) rfl
theorem mv_X12_345 : MV RX12 345 yX12_isParted cX12_isParted 4 (some .boolean) 2 := ⟨inBi 1670 (by decide +kernel), inBi 1672 (by decide +kernel), inBi 56 (by decide +kernel), inBi 107 (by decide +kernel), cw_X12_isParted, by decide +kernel, by decide +kernel, by decide +kernel⟩
theorem fl_X12_71 : FL RX12 71 12 40 := ⟨RX12, TX12, 50, rfl, rfl, by decide, inU_X12, Or.inl (inBi 1397 (by decide +kernel))⟩
theorem fl_X12_74 : FL RX12 74 12 41 := ⟨RX12, TX12, 50, rfl, rfl, by decide, inU_X12, Or.inl (inBi 1398 (by decide +kernel))⟩
set_option maxRecDepth 20000 in
theorem cw_X12_result : Cond.code yX12_result cX12_result 2 (some .int) ∈ BIG := inB (List.mem_of_getElem? (i := 1588) rfl) rfl
theorem mv_X12_219 : MV RX12 219 yX12_result cX12_result 2 (some .int) 1 := ⟨inBi 1585 (by decide +kernel), inBi 1587 (by decide +kernel), inBi 41 (by decide +kernel), inBi 107 (by decide +kernel), cw_X12_result, by decide +kernel, by decide +kernel, by decide +kernel⟩
set_option maxRecDepth 20000 in
theorem cw_X12_sign : Cond.code yX12_sign cX12_sign 2 none ∈ BIG := inB (List.mem_of_getElem? (i := 1584) rfl) rfl
theorem mv_X12_216 : MV RX12 216 yX12_sign cX12_sign 2 none 1 := ⟨inBi 1581 (by decide +kernel), inBi 1583 (by decide +kernel), inBi 40 (by decide +kernel), inBi 107 (by decide +kernel), cw_X12_sign, by decide +kernel, by decide +kernel, by decide +kernel⟩
set_option maxRecDepth 20000 in
theorem cw_X12_isMore : Cond.code yX12_isMore cX12_isMore 1 (some .boolean) ∈ BIG := inB (List.mem_of_getElem? (i := 1535) rfl) rfl
theorem mv_X12_198 : MV RX12 198 yX12_isMore cX12_isMore 1 (some .boolean) 0 := ⟨inBi 1532 (by decide +kernel), inBi 1534 (by decide +kernel), inBi 32 (by decide +kernel), inBi 107 (by decide +kernel), cw_X12_isMore, by decide +kernel, by decide +kernel, by decide +kernel⟩
set_option maxRecDepth 20000 in
theorem cw_X12_begins : Cond.code yX12_begins cX12_begins 2 none ∈ BIG := inB (List.mem_of_getElem? (i := 1527) rfl) rfl
theorem mv_X12_194 : MV RX12 194 yX12_begins cX12_begins 2 none 1 := ⟨inBi 1524 (by decide +kernel), inBi 1526 (by decide +kernel), inBi 30 (by decide +kernel), inBi 107 (by decide +kernel), cw_X12_begins, by decide +kernel, by decide +kernel, by decide +kernel⟩
set_option maxRecDepth 20000 in
theorem cw_X12_may : Cond.code yX12_may cX12_may 4 (some .boolean) ∈ BIG := inB (List.mem_of_getElem? (i := 1523) rfl) rfl
theorem mv_X12_190 : MV RX12 190 yX12_may cX12_may 4 (some .boolean) 3 := ⟨inBi 1520 (by decide +kernel), inBi 1522 (by decide +kernel), inBi 29 (by decide +kernel), inBi 107 (by decide +kernel), cw_X12_may, by decide +kernel, by decide +kernel, by decide +kernel⟩
theorem fl_X12_169 : FL RX12 169 12 31 := ⟨RX12, TX12, 50, rfl, rfl, by decide, inU_X12, Or.inl (inBi 1388 (by decide +kernel))⟩
theorem fl_X12_65 : FL RX12 65 12 38 := ⟨RX12, TX12, 50, rfl, rfl, by decide, inU_X12, Or.inl (inBi 1395 (by decide +kernel))⟩
set_option maxRecDepth 20000 in
theorem cw_X12_isWhite : Cond.code yX12_isWhite cX12_isWhite 4 (some .boolean) ∈ BIG := inB (List.mem_of_getElem? (i := 1750) rfl) rfl
theorem mv_X12_362 : MV RX12 362 yX12_isWhite cX12_isWhite 4 (some .boolean) 1 := ⟨inBi 1747 (by decide +kernel), inBi 1749 (by decide +kernel), inBi 70 (by decide +kernel), inBi 107 (by decide +kernel), cw_X12_isWhite, by decide +kernel, by decide +kernel, by decide +kernel⟩
set_option maxRecDepth 20000 in
theorem cw_X12_wallOf : Cond.code yX12_wallOf cX12_wallOf 2 (some .int) ∈ BIG := inB (List.mem_of_getElem? (i := 1758) rfl) rfl
theorem mv_X12_365 : MV RX12 365 yX12_wallOf cX12_wallOf 2 (some .int) 1 := ⟨inBi 1755 (by decide +kernel), inBi 1757 (by decide +kernel), inBi 72 (by decide +kernel), inBi 107 (by decide +kernel), cw_X12_wallOf, by decide +kernel, by decide +kernel, by decide +kernel⟩
def fX12_thrown (sh : Shp) (x0 : Nat) (mm : Mem) : Option (Int32) :=
  (rI sh mm 12 x0 0).bind fun v1 =>
  some v1
def fX12_may_j38 (sh : Shp) (s0 : Int32) (mm : Mem) : Option (Int32 × Mem) :=
  (ckZ s0).bind fun v1 => some (v1, mm)
def fX12_may_j26 (sh : Shp) (x0 : Nat) (mm : Mem) : Option (Int32 × Mem) :=
  (rI sh mm 12 x0 0).bind fun v2 =>
  if v2 = 0 then (fX12_may_j38 sh 1 mm)
  else (fX12_may_j38 sh 0 mm)
def fX12_may (sh : Shp) (x0 : Nat) (x1 : Int32) (x2 : Int32) (x3 : Int32) (mm : Mem) : Option (Int32 × Mem) :=
  if x1 = 0 then ((rI sh mm 12 x0 0).bind fun v5 =>
  if v5 = 0 then ((wI sh mm 12 x0 0 x2).bind fun m7 =>
  (rR sh 12 x0 1).bind fun a8 =>
  (aL sh m7 a8 x3).bind fun v9 =>
  (aS sh m7 a8 x3 (v9 + 1)).bind fun m10 =>
  fX12_may_j26 sh x0 m10)
  else (fX12_may_j26 sh x0 mm))
  else (fX12_may_j26 sh x0 mm)
def fX12_within_j15 (s0 : Int32) : Option (Int32) :=
  (ckZ s0).bind fun v1 => some v1
def fX12_within_j14 : Option (Int32) :=
  fX12_within_j15 0
def fX12_within (x0 : Int32) (x1 : Int32) (x2 : Int32) : Option (Int32) :=
  if x0 < x1 then (fX12_within_j14 )
  else (if x2 < x0 then (fX12_within_j14 )
  else (fX12_within_j15 1))
def fX12_feed_j120 (sh : Shp) (x0 : Nat) (mm : Mem) : Option (Int32 × Mem) :=
  (rI sh mm 12 x0 2).bind fun v1 =>
  some (v1, mm)
def fX12_feed_j76 (sh : Shp) (x0 : Nat) (x1 : Int32) (x2 : Int32) (x3 : Int32) (x4 : Int32) (x5 : Int32) (x6 : Int32) (s0 : Int32) (mm : Mem) : Option ((Int32 × Mem) ⊕ ((Mem))) :=
  lt1 s0 fun x7_6 =>
  (rR sh 12 x0 9).bind fun a7 =>
  (rI sh mm 12 x0 2).bind fun v8 =>
  (rmI x6 4).bind fun v9 =>
  (aS sh mm a7 v8 ((x7_6 >>> ((24 - (8 * v9)) &&& 31)) &&& 255)).bind fun m10 =>
  (rI sh m10 12 x0 2).bind fun v11 =>
  (wI sh m10 12 x0 2 (v11 + 1)).bind fun m12 =>
  lt1 (x6 + 1) fun x6_13 =>
  some (.inl (x6_13, m12))
def fX12_feed_b23 (sh : Shp) (x0 : Nat) (x1 : Int32) (x2 : Int32) (x3 : Int32) (x4 : Int32) (x5 : Int32) (x6 : Int32) (mm : Mem) : Option ((Int32 × Mem) ⊕ ((Mem))) :=
  if 20 ≤ x6 then (some (.inr mm))
  else (if 4 ≤ x6 then (if 8 ≤ x6 then (if 12 ≤ x6 then (if 16 ≤ x6 then (fX12_feed_j76 sh x0 x1 x2 x3 x4 x5 x6 x5 mm)
  else (fX12_feed_j76 sh x0 x1 x2 x3 x4 x5 x6 x4 mm))
  else (fX12_feed_j76 sh x0 x1 x2 x3 x4 x5 x6 x3 mm))
  else (fX12_feed_j76 sh x0 x1 x2 x3 x4 x5 x6 x2 mm))
  else (fX12_feed_j76 sh x0 x1 x2 x3 x4 x5 x6 x1 mm))
def fX12_feed (sh : Shp) (x0 : Nat) (x1 : Int32) (x2 : Int32) (x3 : Int32) (x4 : Int32) (x5 : Int32) (mm : Mem) : Option (Int32 × Mem) :=
  (wI sh mm 12 x0 0 0).bind fun m2 =>
  (rI sh m2 12 x0 2).bind fun v3 =>
  if (v3 + 20) ≤ 600 then (lt1 0 fun x6_5 =>
  (loopN (fun st : Int32 × Mem => fX12_feed_b23 sh x0 x1 x2 x3 x4 x5 st.1 st.2) FU (x6_5, m2)).bind (fun t => fX12_feed_j120 sh x0 t))
  else (some ((-1), m2))
def fX12_fine_j13 (sh : Shp) (s0 : Int32) (mm : Mem) : Option (Int32) :=
  (ckZ s0).bind fun v1 => some v1
def fX12_fine (sh : Shp) (x0 : Nat) (mm : Mem) : Option (Int32) :=
  (rI sh mm 12 x0 5).bind fun v2 =>
  if v2 = (-1) then (fX12_fine_j13 sh 1 mm)
  else (fX12_fine_j13 sh 0 mm)
def fX12_wrong (sh : Shp) (x0 : Nat) (x1 : Int32) (x2 : Int32) (mm : Mem) : Option (Mem) :=
  (rI sh mm 12 x0 5).bind fun v1 =>
  if v1 = (-1) then ((wI sh mm 12 x0 5 x2).bind fun m3 =>
  (wI sh m3 12 x0 6 x1).bind fun m4 =>
  some m4)
  else (some mm)
def fX12_here_j62 (sh : Shp) (s0 : Int32) (mm : Mem) : Option (Int32 × Mem) :=
  some (s0, mm)
def fX12_here_j38 (sh : Shp) (x0 : Nat) (mm : Mem) : Option (Int32 × Mem) :=
  (rI sh mm 12 x0 4).bind fun v1 =>
  (rI sh mm 12 x0 3).bind fun v2 =>
  if v2 ≤ v1 then (fX12_here_j62 sh 0 mm)
  else ((rR sh 12 x0 9).bind fun a4 =>
  (rI sh mm 12 x0 4).bind fun v5 =>
  (aL sh mm a4 v5).bind fun v6 =>
  fX12_here_j62 sh v6 mm)
def fX12_here_b0 (sh : Shp) (x0 : Nat) (mm : Mem) : Option ((Mem) ⊕ ((Mem))) :=
  (rI sh mm 12 x0 4).bind fun v7 =>
  (rI sh mm 12 x0 3).bind fun v8 =>
  if v8 ≤ v7 then (some (.inr mm))
  else ((rR sh 12 x0 9).bind fun a10 =>
  (rI sh mm 12 x0 4).bind fun v11 =>
  (aL sh mm a10 v11).bind fun v12 =>
  if v12 = 32 then ((rI sh mm 12 x0 4).bind fun v14 =>
  (wI sh mm 12 x0 4 (v14 + 1)).bind fun m15 =>
  some (.inl m15))
  else (some (.inr mm)))
def fX12_here (sh : Shp) (x0 : Nat) (mm : Mem) : Option (Int32 × Mem) :=
  (loopN (fun st : Mem => fX12_here_b0 sh x0 st) FU mm).bind (fun t => fX12_here_j38 sh x0 t)
def fX12_isSmall_j17 (s0 : Int32) : Option (Int32) :=
  (ckZ s0).bind fun v1 => some v1
def fX12_isSmall_j16 : Option (Int32) :=
  fX12_isSmall_j17 0
def fX12_isSmall (x0 : Int32) : Option (Int32) :=
  if x0 < 97 then (fX12_isSmall_j16 )
  else (if 122 < x0 then (fX12_isSmall_j16 )
  else (fX12_isSmall_j17 1))
def fX12_isDigit_j17 (s0 : Int32) : Option (Int32) :=
  (ckZ s0).bind fun v1 => some v1
def fX12_isDigit_j16 : Option (Int32) :=
  fX12_isDigit_j17 0
def fX12_isDigit (x0 : Int32) : Option (Int32) :=
  if x0 < 48 then (fX12_isDigit_j16 )
  else (if 57 < x0 then (fX12_isDigit_j16 )
  else (fX12_isDigit_j17 1))
def fX12_word_j78 (sh : Shp) (s0 : Int32) (mm : Mem) : Option (Int32 × Mem) :=
  some (s0, mm)
def fX12_word_j67 (sh : Shp) (x1 : Int32) (x2 : Int32) (mm : Mem) : Option (Int32 × Mem) :=
  if x2 ≤ 6 then (fX12_word_j78 sh x1 mm)
  else (fX12_word_j78 sh 0 mm)
def fX12_word_j57 (sh : Shp) (x0 : Nat) (x2 : Int32) (x3 : Int32) (s0 : Int32) (mm : Mem) : Option ((Int32 × Int32 × Int32) ⊕ ((Int32 × Int32))) :=
  lt1 s0 fun x1_8 =>
  lt1 (x2 + 1) fun x2_9 =>
  lt1 (x3 + 1) fun x3_10 =>
  some (.inl (x1_8, x2_9, x3_10))
def fX12_word_b14 (sh : Shp) (x0 : Nat) (x1 : Int32) (x2 : Int32) (x3 : Int32) (mm : Mem) : Option ((Int32 × Int32 × Int32) ⊕ ((Int32 × Int32))) :=
  (rI sh mm 12 x0 3).bind fun v11 =>
  if v11 ≤ x3 then (some (.inr (x1, x2)))
  else ((rR sh 12 x0 9).bind fun a13 =>
  (aL sh mm a13 x3).bind fun v14 =>
  (fX12_isSmall v14).bind fun v15 =>
  if v15 = 0 then (some (.inr (x1, x2)))
  else (if 6 ≤ x2 then (fX12_word_j57 sh x0 x2 x3 0 mm)
  else ((rR sh 12 x0 9).bind fun a18 =>
  (aL sh mm a18 x3).bind fun v19 =>
  fX12_word_j57 sh x0 x2 x3 ((x1 <<< (5 &&& 31)) ||| (v19 - 96)) mm)))
def fX12_word (sh : Shp) (x0 : Nat) (mm : Mem) : Option (Int32 × Mem) :=
  (isO sh 12 x0).bind fun _ =>
  bd2 (fX12_here sh x0 mm) fun v2 m3 =>
  lt1 0 fun x1_4 =>
  lt1 0 fun x2_5 =>
  (rI sh m3 12 x0 4).bind fun v6 =>
  lt1 v6 fun x3_7 =>
  (loopN (fun st : Int32 × Int32 × Int32 => fX12_word_b14 sh x0 st.1 st.2.1 st.2.2 m3) FU (x1_4, x2_5, x3_7)).bind (fun t => fX12_word_j67 sh t.1 t.2 m3)
def fX12_pass_j39 (sh : Shp) (mm : Mem) : Option (Mem) :=
  some mm
def fX12_pass_b0 (sh : Shp) (x0 : Nat) (mm : Mem) : Option ((Mem) ⊕ ((Mem))) :=
  (rI sh mm 12 x0 4).bind fun v1 =>
  (rI sh mm 12 x0 3).bind fun v2 =>
  if v2 ≤ v1 then (some (.inr mm))
  else ((rR sh 12 x0 9).bind fun a4 =>
  (rI sh mm 12 x0 4).bind fun v5 =>
  (aL sh mm a4 v5).bind fun v6 =>
  (fX12_isSmall v6).bind fun v7 =>
  if v7 = 0 then (some (.inr mm))
  else ((rI sh mm 12 x0 4).bind fun v9 =>
  (wI sh mm 12 x0 4 (v9 + 1)).bind fun m10 =>
  some (.inl m10)))
def fX12_pass (sh : Shp) (x0 : Nat) (mm : Mem) : Option (Mem) :=
  (loopN (fun st : Mem => fX12_pass_b0 sh x0 st) FU mm).bind (fun t => fX12_pass_j39 sh t)
def fX12_readNumber_j126 (sh : Shp) (x0 : Nat) (x4 : Int32) (mm : Mem) : Option (Int32 × Mem) :=
  (isO sh 12 x0).bind fun _ =>
  (fX12_wrong sh x0 2 x4 mm).bind fun m1 =>
  some (0, m1)
def fX12_readNumber_j114 (sh : Shp) (x0 : Nat) (x1 : Int32) (x2 : Int32) (x4 : Int32) (x5 : Int32) (mm : Mem) : Option (Int32 × Mem) :=
  if x5 < x1 then (fX12_readNumber_j126 sh x0 x4 mm)
  else (if x5 ≤ x2 then (some (x5, mm))
  else (fX12_readNumber_j126 sh x0 x4 mm))
def fX12_readNumber_j99 (sh : Shp) (x0 : Nat) (x1 : Int32) (x2 : Int32) (x4 : Int32) (s0 : Int32) (mm : Mem) : Option ((Int32 × Mem) ⊕ ((Int32 × Mem))) :=
  lt1 s0 fun x5_14 =>
  (rI sh mm 12 x0 4).bind fun v15 =>
  (wI sh mm 12 x0 4 (v15 + 1)).bind fun m16 =>
  some (.inl (x5_14, m16))
def fX12_readNumber_b41 (sh : Shp) (x0 : Nat) (x1 : Int32) (x2 : Int32) (x4 : Int32) (x5 : Int32) (mm : Mem) : Option ((Int32 × Mem) ⊕ ((Int32 × Mem))) :=
  (rI sh mm 12 x0 4).bind fun v17 =>
  (rI sh mm 12 x0 3).bind fun v18 =>
  if v18 ≤ v17 then (some (.inr (x5, mm)))
  else ((rR sh 12 x0 9).bind fun a20 =>
  (rI sh mm 12 x0 4).bind fun v21 =>
  (aL sh mm a20 v21).bind fun v22 =>
  (fX12_isDigit v22).bind fun v23 =>
  if v23 = 0 then (some (.inr (x5, mm)))
  else (if x5 ≤ 9999 then ((rR sh 12 x0 9).bind fun a26 =>
  (rI sh mm 12 x0 4).bind fun v27 =>
  (aL sh mm a26 v27).bind fun v28 =>
  fX12_readNumber_j99 sh x0 x1 x2 x4 (((10 * x5) + v28) - 48) mm)
  else (fX12_readNumber_j99 sh x0 x1 x2 x4 10000 mm)))
def fX12_readNumber (sh : Shp) (x0 : Nat) (x1 : Int32) (x2 : Int32) (mm : Mem) : Option (Int32 × Mem) :=
  (isO sh 12 x0).bind fun _ =>
  (fX12_fine sh x0 mm).bind fun v4 =>
  if v4 = 0 then (some (0, mm))
  else ((isO sh 12 x0).bind fun _ =>
  bd2 (fX12_here sh x0 mm) fun v6 m7 =>
  lt1 v6 fun x3_8 =>
  (rI sh m7 12 x0 4).bind fun v9 =>
  lt1 v9 fun x4_10 =>
  lt1 0 fun x5_11 =>
  (fX12_isDigit x3_8).bind fun v12 =>
  if v12 = 0 then ((rI sh m7 12 x0 4).bind fun v29 =>
  (isO sh 12 x0).bind fun _ =>
  (fX12_wrong sh x0 1 v29 m7).bind fun m30 =>
  some (0, m30))
  else ((loopN (fun st : Int32 × Mem => fX12_readNumber_b41 sh x0 x1 x2 x4_10 st.1 st.2) FU (x5_11, m7)).bind (fun t => fX12_readNumber_j114 sh x0 x1 x2 x4_10 t.1 t.2)))
def fX12_sign_j41 (sh : Shp) (mm : Mem) : Option (Mem) :=
  some mm
def fX12_sign_j24 (sh : Shp) (x0 : Nat) (mm : Mem) : Option (Mem) :=
  (isO sh 12 x0).bind fun _ =>
  (fX12_fine sh x0 mm).bind fun v1 =>
  if v1 = 0 then (fX12_sign_j41 sh mm)
  else ((rI sh mm 12 x0 4).bind fun v3 =>
  (wI sh mm 12 x0 4 (v3 + 1)).bind fun m4 =>
  fX12_sign_j41 sh m4)
def fX12_sign (sh : Shp) (x0 : Nat) (x1 : Int32) (mm : Mem) : Option (Mem) :=
  (isO sh 12 x0).bind fun _ =>
  (fX12_fine sh x0 mm).bind fun v5 =>
  if v5 = 0 then (fX12_sign_j24 sh x0 mm)
  else ((isO sh 12 x0).bind fun _ =>
  bd2 (fX12_here sh x0 mm) fun v7 m8 =>
  if v7 = x1 then (fX12_sign_j24 sh x0 m8)
  else ((rI sh m8 12 x0 4).bind fun v10 =>
  (isO sh 12 x0).bind fun _ =>
  (fX12_wrong sh x0 1 v10 m8).bind fun m11 =>
  fX12_sign_j24 sh x0 m11))
def fX12_isMore_j21 (sh : Shp) (s0 : Int32) (mm : Mem) : Option (Int32 × Mem) :=
  (ckZ s0).bind fun v1 => some (v1, mm)
def fX12_isMore (sh : Shp) (x0 : Nat) (mm : Mem) : Option (Int32 × Mem) :=
  (isO sh 12 x0).bind fun _ =>
  bd2 (fX12_here sh x0 mm) fun v2 m3 =>
  (rI sh m3 12 x0 4).bind fun v4 =>
  (rI sh m3 12 x0 3).bind fun v5 =>
  if v5 ≤ v4 then (fX12_isMore_j21 sh 0 m3)
  else (fX12_isMore_j21 sh 1 m3)
def fX12_begins (sh : Shp) (x0 : Nat) (x1 : Int32) (mm : Mem) : Option (Mem) :=
  (wI sh mm 12 x0 2 0).bind fun m1 =>
  (wI sh m1 12 x0 8 (-1)).bind fun m2 =>
  (wI sh m2 12 x0 3 x1).bind fun m3 =>
  (wI sh m3 12 x0 4 0).bind fun m4 =>
  (wI sh m4 12 x0 5 (-1)).bind fun m5 =>
  (wI sh m5 12 x0 7 0).bind fun m6 =>
  some m6
def fX12_result_j26 (sh : Shp) (s0 : Int32) (mm : Mem) : Option (Int32 × Mem) :=
  some (s0, mm)
def fX12_result (sh : Shp) (x0 : Nat) (x1 : Int32) (mm : Mem) : Option (Int32 × Mem) :=
  (rI sh mm 12 x0 5).bind fun v1 =>
  (wI sh mm 12 x0 8 v1).bind fun m2 =>
  (isO sh 12 x0).bind fun _ =>
  (fX12_fine sh x0 m2).bind fun v3 =>
  if v3 = 0 then ((rI sh m2 12 x0 6).bind fun v5 =>
  fX12_result_j26 sh (v5 - 10) m2)
  else (fX12_result_j26 sh x1 m2)
def fX12_fault (sh : Shp) (x0 : Nat) (mm : Mem) : Option (Int32 × Mem) :=
  (wI sh mm 12 x0 0 0).bind fun m1 =>
  (rI sh m1 12 x0 8).bind fun v2 =>
  some (v2, m1)
def fX12_copies_j23 (sh : Shp) (mm : Mem) : Option (Mem) :=
  some mm
def fX12_copies_b3 (sh : Shp) (x1 : Nat) (x2 : Nat) (x3 : Int32) (x4 : Int32) (mm : Mem) : Option ((Int32 × Mem) ⊕ ((Mem))) :=
  if x3 ≤ x4 then (some (.inr mm))
  else ((aL sh mm x1 x4).bind fun v3 =>
  (aS sh mm x2 x4 v3).bind fun m4 =>
  lt1 (x4 + 1) fun x4_5 =>
  some (.inl (x4_5, m4)))
def fX12_copies (sh : Shp) (x0 : Nat) (x1 : Nat) (x2 : Nat) (x3 : Int32) (mm : Mem) : Option (Mem) :=
  lt1 0 fun x4_1 =>
  (loopN (fun st : Int32 × Mem => fX12_copies_b3 sh x1 x2 x3 st.1 st.2) FU (x4_1, mm)).bind (fun t => fX12_copies_j23 sh t)
def fX12_clears (sh : Shp) (x0 : Nat) (mm : Mem) : Option (Mem) :=
  (wI sh mm 12 x0 14 0).bind fun m1 =>
  (wI sh m1 12 x0 15 0).bind fun m2 =>
  (wI sh m2 12 x0 16 60).bind fun m3 =>
  some m3
def fX12_sets_j119 (sh : Shp) (mm : Mem) : Option (Mem) :=
  some mm
def fX12_sets_j112 (sh : Shp) (x0 : Nat) (x1 : Int32) (s0 : Nat) (s1 : Int32) (s2 : Int32) (mm : Mem) : Option ((Int32 × Mem) ⊕ ((Mem))) :=
  (aS sh mm s0 s1 s2).bind fun m19 =>
  lt1 (x1 + 1) fun x1_20 =>
  some (.inl (x1_20, m19))
def fX12_sets_b79 (sh : Shp) (x0 : Nat) (x1 : Int32) (mm : Mem) : Option ((Int32 × Mem) ⊕ ((Mem))) :=
  if 175 ≤ x1 then (some (.inr mm))
  else ((rR sh 12 x0 36).bind fun a22 =>
  (rI sh mm 12 x0 17).bind fun v23 =>
  if (7 * v23) ≤ x1 then (fX12_sets_j112 sh x0 x1 a22 x1 0 mm)
  else ((rR sh 12 x0 12).bind fun a25 =>
  (aL sh mm a25 x1).bind fun v26 =>
  fX12_sets_j112 sh x0 x1 a22 x1 v26 mm))
def fX12_sets (sh : Shp) (x0 : Nat) (mm : Mem) : Option (Mem) :=
  (rI sh mm 12 x0 14).bind fun v1 =>
  (wI sh mm 12 x0 17 v1).bind fun m2 =>
  (rI sh m2 12 x0 15).bind fun v3 =>
  (wI sh m2 12 x0 18 v3).bind fun m4 =>
  (rI sh m4 12 x0 16).bind fun v5 =>
  (wI sh m4 12 x0 19 v5).bind fun m6 =>
  (rR sh 12 x0 10).bind fun a7 =>
  (rR sh 12 x0 12).bind fun a8 =>
  (isO sh 12 x0).bind fun _ =>
  (fX12_copies sh x0 a7 a8 42 m6).bind fun m9 =>
  (rR sh 12 x0 11).bind fun a10 =>
  (rR sh 12 x0 13).bind fun a11 =>
  (isO sh 12 x0).bind fun _ =>
  (fX12_copies sh x0 a10 a11 16 m9).bind fun m12 =>
  (wI sh m12 12 x0 26 0).bind fun m13 =>
  (wI sh m13 12 x0 42 0).bind fun m14 =>
  (wI sh m14 12 x0 31 0).bind fun m15 =>
  (wI sh m15 12 x0 49 0).bind fun m16 =>
  (wI sh m16 12 x0 32 0).bind fun m17 =>
  lt1 0 fun x1_18 =>
  (loopN (fun st : Int32 × Mem => fX12_sets_b79 sh x0 st.1 st.2) FU (x1_18, m17)).bind (fun t => fX12_sets_j119 sh t)
def fX12_emit (sh : Shp) (x0 : Nat) (x1 : Int32) (x2 : Int32) (mm : Mem) : Option (Mem) :=
  (isO sh 12 x0).bind fun _ =>
  (fX12_fine sh x0 mm).bind fun v1 =>
  if v1 = 0 then (some mm)
  else ((rR sh 12 x0 20).bind fun a3 =>
  (rI sh mm 12 x0 25).bind fun v4 =>
  (aS sh mm a3 v4 x1).bind fun m5 =>
  (rR sh 12 x0 21).bind fun a6 =>
  (rI sh m5 12 x0 25).bind fun v7 =>
  (aS sh m5 a6 v7 x2).bind fun m8 =>
  (rI sh m8 12 x0 25).bind fun v9 =>
  (wI sh m8 12 x0 25 (v9 + 1)).bind fun m10 =>
  some m10)
def fX12_opensOne_j42 (sh : Shp) (x0 : Nat) (mm : Mem) : Option (Mem) :=
  (rI sh mm 12 x0 7).bind fun v1 =>
  (wI sh mm 12 x0 7 (v1 + 1)).bind fun m2 =>
  some m2
def fX12_opensOne_j25 (sh : Shp) (x0 : Nat) (x1 : Int32) (mm : Mem) : Option (Mem) :=
  (isO sh 12 x0).bind fun _ =>
  (fX12_fine sh x0 mm).bind fun v3 =>
  if v3 = 0 then (fX12_opensOne_j42 sh x0 mm)
  else ((rI sh mm 12 x0 4).bind fun v5 =>
  (wI sh mm 12 x0 4 (v5 + x1)).bind fun m6 =>
  fX12_opensOne_j42 sh x0 m6)
def fX12_opensOne (sh : Shp) (x0 : Nat) (x1 : Int32) (mm : Mem) : Option (Mem) :=
  (isO sh 12 x0).bind fun _ =>
  (fX12_fine sh x0 mm).bind fun v7 =>
  if v7 = 0 then (fX12_opensOne_j25 sh x0 x1 mm)
  else ((rI sh mm 12 x0 7).bind fun v9 =>
  if v9 = 6 then ((rI sh mm 12 x0 4).bind fun v11 =>
  (isO sh 12 x0).bind fun _ =>
  (fX12_wrong sh x0 3 v11 mm).bind fun m12 =>
  fX12_opensOne_j25 sh x0 x1 m12)
  else (fX12_opensOne_j25 sh x0 x1 mm))
def fX12_both_j60 (s0 : Int32) : Option (Int32) :=
  some s0
def fX12_both_j38 (x0 : Int32) (x1 : Int32) (x2 : Int32) : Option (Int32) :=
  if x2 = 0 then (fX12_both_j60 0)
  else (if x0 = 5 then ((dvI x1 x2).bind fun v4 =>
  fX12_both_j60 v4)
  else ((rmI x1 x2).bind fun v3 =>
  fX12_both_j60 v3))
def fX12_both_j90 (s0 : Int32) : Option (Int32) :=
  some s0
def fX12_both_j82 (x1 : Int32) (x2 : Int32) (s0 : Int32) (s1 : Int32) : Option (Int32) :=
  if s0 = s1 then (fX12_both_j90 x1)
  else (fX12_both_j90 x2)
def fX12_both_j71 (x0 : Int32) (x1 : Int32) (x2 : Int32) (s0 : Int32) : Option (Int32) :=
  if x0 = 6 then (fX12_both_j82 x1 x2 s0 1)
  else (fX12_both_j82 x1 x2 s0 0)
def fX12_both (x0 : Int32) (x1 : Int32) (x2 : Int32) : Option (Int32) :=
  if x0 = 2 then (some (x1 + x2))
  else (if x0 = 3 then (some (x1 - x2))
  else (if x0 = 4 then (some (x1 * x2))
  else (if x0 = 5 then (fX12_both_j38 x0 x1 x2)
  else (if x0 = 8 then (fX12_both_j38 x0 x1 x2)
  else (if x2 ≤ x1 then (fX12_both_j71 x0 x1 x2 0)
  else (fX12_both_j71 x0 x1 x2 1))))))
def fX12_valueNow_j95 (sh : Shp) (x0 : Nat) (mm : Mem) : Option (Int32 × Mem) :=
  (rR sh 12 x0 24).bind fun a1 =>
  (aL sh mm a1 0).bind fun v2 =>
  some (v2, mm)
def fX12_valueNow_j89 (sh : Shp) (x0 : Nat) (x1 : Int32) (x2 : Int32) (mm : Mem) : Option ((Int32 × Int32 × Mem) ⊕ ((Mem))) :=
  lt1 (x2 + 1) fun x2_5 =>
  some (.inl (x1, x2_5, mm))
def fX12_valueNow_j53 (sh : Shp) (x0 : Nat) (x1 : Int32) (x2 : Int32) (s0 : Nat) (s1 : Int32) (s2 : Int32) (mm : Mem) : Option ((Int32 × Int32 × Mem) ⊕ ((Mem))) :=
  (aS sh mm s0 s1 s2).bind fun m6 =>
  lt1 (x1 + 1) fun x1_7 =>
  fX12_valueNow_j89 sh x0 x1_7 x2 m6
def fX12_valueNow_b4 (sh : Shp) (x0 : Nat) (x1 : Int32) (x2 : Int32) (mm : Mem) : Option ((Int32 × Int32 × Mem) ⊕ ((Mem))) :=
  (rI sh mm 12 x0 26).bind fun v8 =>
  if v8 ≤ x2 then (some (.inr mm))
  else ((rR sh 12 x0 22).bind fun a10 =>
  (aL sh mm a10 x2).bind fun v11 =>
  lt1 v11 fun x3_12 =>
  if 1 < x3_12 then (lt1 (x1 + (-1)) fun x1_14 =>
  (rR sh 12 x0 24).bind fun a15 =>
  (rR sh 12 x0 24).bind fun a16 =>
  (aL sh mm a16 (x1_14 - 1)).bind fun v17 =>
  (rR sh 12 x0 24).bind fun a18 =>
  (aL sh mm a18 x1_14).bind fun v19 =>
  (fX12_both x3_12 v17 v19).bind fun v20 =>
  (aS sh mm a15 (x1_14 - 1) v20).bind fun m21 =>
  fX12_valueNow_j89 sh x0 x1_14 x2 m21)
  else ((rR sh 12 x0 24).bind fun a22 =>
  if x3_12 = 0 then ((rR sh 12 x0 23).bind fun a28 =>
  (aL sh mm a28 x2).bind fun v29 =>
  fX12_valueNow_j53 sh x0 x1 x2 a22 x1 v29 mm)
  else ((rR sh 12 x0 27).bind fun a24 =>
  (rR sh 12 x0 23).bind fun a25 =>
  (aL sh mm a25 x2).bind fun v26 =>
  (aL sh mm a24 v26).bind fun v27 =>
  fX12_valueNow_j53 sh x0 x1 x2 a22 x1 v27 mm)))
def fX12_valueNow (sh : Shp) (x0 : Nat) (mm : Mem) : Option (Int32 × Mem) :=
  lt1 0 fun x1_3 =>
  lt1 0 fun x2_4 =>
  (loopN (fun st : Int32 × Int32 × Mem => fX12_valueNow_b4 sh x0 st.1 st.2.1 st.2.2) FU (x1_3, x2_4, mm)).bind (fun t => fX12_valueNow_j95 sh x0 t)
def fX12_turnsNow_j56 (sh : Shp) (s0 : Int32) (mm : Mem) : Option (Int32 × Mem) :=
  some (s0, mm)
def fX12_turnsNow_j29 (sh : Shp) (x0 : Nat) (s0 : Int32) (mm : Mem) : Option (Int32 × Mem) :=
  lt1 s0 fun x1_1 =>
  if 0 ≤ x1_1 then ((rI sh mm 12 x0 19).bind fun v3 =>
  if x1_1 < v3 then (fX12_turnsNow_j56 sh x1_1 mm)
  else ((rI sh mm 12 x0 19).bind fun v5 =>
  fX12_turnsNow_j56 sh (v5 - 1) mm))
  else (fX12_turnsNow_j56 sh 0 mm)
def fX12_turnsNow (sh : Shp) (x0 : Nat) (mm : Mem) : Option (Int32 × Mem) :=
  (rI sh mm 12 x0 26).bind fun v6 =>
  if v6 = 0 then ((rR sh 12 x0 27).bind fun a10 =>
  (aL sh mm a10 0).bind fun v11 =>
  (rR sh 12 x0 27).bind fun a12 =>
  (aL sh mm a12 2).bind fun v13 =>
  fX12_turnsNow_j29 sh x0 ((v11 + 1) * v13) mm)
  else ((isO sh 12 x0).bind fun _ =>
  bd2 (fX12_valueNow sh x0 mm) fun v8 m9 =>
  fX12_turnsNow_j29 sh x0 v8 m9)
def fX12_tellsStep (sh : Shp) (x0 : Nat) (x1 : Int32) (x2 : Int32) (x3 : Int32) (x4 : Int32) (mm : Mem) : Option (Mem) :=
  (isO sh 12 x0).bind fun _ =>
  (fX12_fine sh x0 mm).bind fun v1 =>
  if v1 = 0 then (some mm)
  else ((rR sh 12 x0 28).bind fun a3 =>
  (rI sh mm 12 x0 30).bind fun v4 =>
  (aS sh mm a3 v4 x1).bind fun m5 =>
  (rR sh 12 x0 28).bind fun a6 =>
  (rI sh m5 12 x0 30).bind fun v7 =>
  (aS sh m5 a6 (v7 + 1) x2).bind fun m8 =>
  (rR sh 12 x0 28).bind fun a9 =>
  (rI sh m8 12 x0 30).bind fun v10 =>
  (aS sh m8 a9 (v10 + 2) x3).bind fun m11 =>
  (rR sh 12 x0 28).bind fun a12 =>
  (rI sh m11 12 x0 30).bind fun v13 =>
  (aS sh m11 a12 (v13 + 3) x4).bind fun m14 =>
  (rI sh m14 12 x0 30).bind fun v15 =>
  (wI sh m14 12 x0 30 (v15 + 4)).bind fun m16 =>
  some m16)
def fX12_readFellow (sh : Shp) (x0 : Nat) (mm : Mem) : Option (Int32 × Mem) :=
  (rI sh mm 12 x0 17).bind fun v1 =>
  (isO sh 12 x0).bind fun _ =>
  bd2 (fX12_readNumber sh x0 0 (v1 - 1) mm) fun v2 m3 =>
  some (v2, m3)
def fX12_take (sh : Shp) (x0 : Nat) (mm : Mem) : Option (Mem) :=
  (rR sh 12 x0 36).bind fun a1 =>
  (rR sh 12 x0 37).bind fun a2 =>
  (isO sh 12 x0).bind fun _ =>
  (fX12_copies sh x0 a1 a2 175 mm).bind fun m3 =>
  some m3
def fX12_in (x0 : Int32) (x1 : Int32) (x2 : Int32) : Option (Int32) :=
  some ((x0 + (7 * x1)) + x2)
def fX12_sumOf_j29 (sh : Shp) (x3 : Int32) (mm : Mem) : Option (Int32) :=
  some x3
def fX12_sumOf_b5 (sh : Shp) (x0 : Nat) (x1 : Int32) (x2 : Int32) (x3 : Int32) (x4 : Int32) (mm : Mem) : Option ((Int32 × Int32) ⊕ ((Int32))) :=
  if x2 ≤ x4 then (some (.inr x3))
  else ((rR sh 12 x0 37).bind fun a4 =>
  (aL sh mm a4 (x1 + x4)).bind fun v5 =>
  lt1 (x3 + v5) fun x3_6 =>
  lt1 (x4 + 1) fun x4_7 =>
  some (.inl (x3_6, x4_7)))
def fX12_sumOf (sh : Shp) (x0 : Nat) (x1 : Int32) (x2 : Int32) (mm : Mem) : Option (Int32) :=
  lt1 0 fun x3_1 =>
  lt1 0 fun x4_2 =>
  (loopN (fun st : Int32 × Int32 => fX12_sumOf_b5 sh x0 x1 x2 st.1 st.2 mm) FU (x3_1, x4_2)).bind (fun t => fX12_sumOf_j29 sh t mm)
def fX12_withinOf (sh : Shp) (x0 : Nat) (x1 : Int32) (mm : Mem) : Option (Int32) :=
  (fX12_in 0 x1 0).bind fun v1 =>
  (isO sh 12 x0).bind fun _ =>
  (fX12_sumOf sh x0 v1 7 mm).bind fun v2 =>
  some v2
def fX12_turnsOf (sh : Shp) (x0 : Nat) (x1 : Int32) (x2 : Int32) (x3 : Int32) (x4 : Int32) (x5 : Int32) (x6 : Int32) (x7 : Int32) (x8 : Int32) (mm : Mem) : Option (Int32 × Mem) :=
  (rR sh 12 x0 27).bind fun a1 =>
  (aS sh mm a1 0 x1).bind fun m2 =>
  (rR sh 12 x0 27).bind fun a3 =>
  (aS sh m2 a3 1 x2).bind fun m4 =>
  (rR sh 12 x0 27).bind fun a5 =>
  (aS sh m4 a5 2 x3).bind fun m6 =>
  (rR sh 12 x0 27).bind fun a7 =>
  (aS sh m6 a7 3 x4).bind fun m8 =>
  (rR sh 12 x0 27).bind fun a9 =>
  (aS sh m8 a9 4 x5).bind fun m10 =>
  (rR sh 12 x0 27).bind fun a11 =>
  (aS sh m10 a11 5 x6).bind fun m12 =>
  (rR sh 12 x0 27).bind fun a13 =>
  (aS sh m12 a13 6 x7).bind fun m14 =>
  (rR sh 12 x0 27).bind fun a15 =>
  (aS sh m14 a15 7 x8).bind fun m16 =>
  (isO sh 12 x0).bind fun _ =>
  bd2 (fX12_turnsNow sh x0 m16) fun v17 m18 =>
  some (v17, m18)
def fX12_turnsBy (sh : Shp) (x0 : Nat) (x1 : Int32) (x2 : Int32) (x3 : Int32) (x4 : Int32) (mm : Mem) : Option (Int32 × Mem) :=
  (rR sh 12 x0 13).bind fun a1 =>
  (aL sh mm a1 (2 * x3)).bind fun v2 =>
  (isO sh 12 x0).bind fun _ =>
  (fX12_withinOf sh x0 x1 mm).bind fun v3 =>
  (rR sh 12 x0 37).bind fun a4 =>
  (fX12_in 126 x1 x2).bind fun v5 =>
  (aL sh mm a4 v5).bind fun v6 =>
  (rR sh 12 x0 37).bind fun a7 =>
  (aL sh mm a7 (168 + x1)).bind fun v8 =>
  (rR sh 12 x0 37).bind fun a9 =>
  (aL sh mm a9 174).bind fun v10 =>
  (isO sh 12 x0).bind fun _ =>
  bd2 (fX12_turnsOf sh x0 x2 x4 v2 v3 v6 v8 v10 x1 mm) fun v11 m12 =>
  some (v11, m12)
def fX12_joinsAll_j19 (sh : Shp) (s0 : Int32) (mm : Mem) : Option (Int32) :=
  (ckZ s0).bind fun v1 => some v1
def fX12_joinsAll (sh : Shp) (x0 : Nat) (x1 : Int32) (mm : Mem) : Option (Int32) :=
  (rR sh 12 x0 13).bind fun a2 =>
  (aL sh mm a2 ((2 * x1) + 1)).bind fun v3 =>
  if v3 = 1 then (fX12_joinsAll_j19 sh 1 mm)
  else (fX12_joinsAll_j19 sh 0 mm)
def fX12_isParted_j16 (sh : Shp) (mm : Mem) : Option (Int32 × Mem) :=
  some (0, mm)
def fX12_isParted_j143 (sh : Shp) (x0 : Nat) (x1 : Int32) (mm : Mem) : Option (Int32 × Mem) :=
  (rR sh 12 x0 37).bind fun a1 =>
  (aL sh mm a1 (168 + x1)).bind fun v2 =>
  (aS sh mm a1 (168 + x1) (v2 + 1)).bind fun m3 =>
  some (1, m3)
def fX12_isParted_j137 (sh : Shp) (x0 : Nat) (x1 : Int32) (x3 : Int32) (mm : Mem) : Option ((Int32 × Mem) ⊕ ((Mem))) :=
  lt1 (x3 + 1) fun x3_5 =>
  some (.inl (x3_5, mm))
def fX12_isParted_b58 (sh : Shp) (x0 : Nat) (x1 : Int32) (x3 : Int32) (mm : Mem) : Option ((Int32 × Mem) ⊕ ((Mem))) :=
  if 7 ≤ x3 then (some (.inr mm))
  else ((rR sh 12 x0 37).bind fun a7 =>
  (fX12_in 0 x1 x3).bind fun v8 =>
  (aL sh mm a7 v8).bind fun v9 =>
  if v9 = 0 then (fX12_isParted_j137 sh x0 x1 x3 mm)
  else ((rR sh 12 x0 37).bind fun a11 =>
  (fX12_in 42 x1 x3).bind fun v12 =>
  (aL sh mm a11 v12).bind fun v13 =>
  (rR sh 12 x0 37).bind fun a14 =>
  (fX12_in 0 x1 x3).bind fun v15 =>
  (aL sh mm a14 v15).bind fun v16 =>
  (aS sh mm a11 v12 (v13 + v16)).bind fun m17 =>
  (rR sh 12 x0 37).bind fun a18 =>
  (fX12_in 84 x1 x3).bind fun v19 =>
  (rR sh 12 x0 39).bind fun a20 =>
  (aL sh m17 a20 x3).bind fun v21 =>
  (aS sh m17 a18 v19 v21).bind fun m22 =>
  (rR sh 12 x0 37).bind fun a23 =>
  (fX12_in 0 x1 x3).bind fun v24 =>
  (aS sh m22 a23 v24 0).bind fun m25 =>
  fX12_isParted_j137 sh x0 x1 x3 m25))
def fX12_isParted_j56 (sh : Shp) (x0 : Nat) (x1 : Int32) (mm : Mem) : Option (Int32 × Mem) :=
  lt1 0 fun x3_4 =>
  (loopN (fun st : Int32 × Mem => fX12_isParted_b58 sh x0 x1 st.1 st.2) FU (x3_4, mm)).bind (fun t => fX12_isParted_j143 sh x0 x1 t)
def fX12_isParted_b20 (sh : Shp) (x0 : Nat) (x1 : Int32) (x2 : Int32) (x3 : Int32) (mm : Mem) : Option ((Int32 × Mem) ⊕ ((Mem))) :=
  if 7 ≤ x3 then (some (.inr mm))
  else ((rR sh 12 x0 39).bind fun a32 =>
  (rR sh 12 x0 37).bind fun a33 =>
  (fX12_in 0 x1 x3).bind fun v34 =>
  (aL sh mm a33 v34).bind fun v35 =>
  (isO sh 12 x0).bind fun _ =>
  bd2 (fX12_turnsBy sh x0 x1 x3 x2 v35 mm) fun v36 m37 =>
  (aS sh m37 a32 x3 v36).bind fun m38 =>
  lt1 (x3 + 1) fun x3_39 =>
  some (.inl (x3_39, m38)))
def fX12_isParted (sh : Shp) (x0 : Nat) (x1 : Int32) (x2 : Int32) (mm : Mem) : Option (Int32 × Mem) :=
  (isO sh 12 x0).bind fun _ =>
  (fX12_joinsAll sh x0 x2 mm).bind fun v26 =>
  if v26 = 0 then ((isO sh 12 x0).bind fun _ =>
  (fX12_withinOf sh x0 x1 mm).bind fun v28 =>
  if v28 = 0 then (fX12_isParted_j16 sh mm)
  else (lt1 0 fun x3_30 =>
  (loopN (fun st : Int32 × Mem => fX12_isParted_b20 sh x0 x1 x2 st.1 st.2) FU (x3_30, mm)).bind (fun t => fX12_isParted_j56 sh x0 x1 t)))
  else (fX12_isParted_j16 sh mm)
def fX12_comesBack_j83 (sh : Shp) (x3 : Int32) (mm : Mem) : Option (Int32 × Mem) :=
  some (x3, mm)
def fX12_comesBack_j75 (sh : Shp) (x0 : Nat) (x1 : Int32) (x2 : Int32) (x4 : Int32) (s0 : Int32) (s1 : Int32) (mm : Mem) : Option ((Int32 × Int32 × Mem) ⊕ ((Int32 × Mem))) :=
  lt1 (s0 ||| s1) fun x3_3 =>
  lt1 (x4 + 1) fun x4_4 =>
  some (.inl (x3_3, x4_4, mm))
def fX12_comesBack_j74 (sh : Shp) (x0 : Nat) (x1 : Int32) (x2 : Int32) (x4 : Int32) (s0 : Int32) (mm : Mem) : Option ((Int32 × Int32 × Mem) ⊕ ((Int32 × Mem))) :=
  fX12_comesBack_j75 sh x0 x1 x2 x4 s0 0 mm
def fX12_comesBack_b5 (sh : Shp) (x0 : Nat) (x1 : Int32) (x2 : Int32) (x3 : Int32) (x4 : Int32) (mm : Mem) : Option ((Int32 × Int32 × Mem) ⊕ ((Int32 × Mem))) :=
  if 7 ≤ x4 then (some (.inr (x3, mm)))
  else ((isO sh 12 x0).bind fun _ =>
  (fX12_joinsAll sh x0 x2 mm).bind fun v6 =>
  if v6 = 0 then (some (.inr (x3, mm)))
  else ((rR sh 12 x0 37).bind fun a8 =>
  (fX12_in 42 x1 x4).bind fun v9 =>
  (aL sh mm a8 v9).bind fun v10 =>
  lt1 v10 fun x5_11 =>
  if x5_11 ≤ 0 then (fX12_comesBack_j74 sh x0 x1 x2 x4 x3 mm)
  else ((isO sh 12 x0).bind fun _ =>
  bd2 (fX12_turnsBy sh x0 x1 x4 x2 x5_11 mm) fun v13 m14 =>
  (rR sh 12 x0 37).bind fun a15 =>
  (fX12_in 84 x1 x4).bind fun v16 =>
  (aL sh m14 a15 v16).bind fun v17 =>
  if v13 = v17 then (fX12_comesBack_j75 sh x0 x1 x2 x4 x3 (1 <<< (x4 &&& 31)) m14)
  else (fX12_comesBack_j74 sh x0 x1 x2 x4 x3 m14))))
def fX12_comesBack (sh : Shp) (x0 : Nat) (x1 : Int32) (x2 : Int32) (mm : Mem) : Option (Int32 × Mem) :=
  lt1 0 fun x3_1 =>
  lt1 0 fun x4_2 =>
  (loopN (fun st : Int32 × Int32 × Mem => fX12_comesBack_b5 sh x0 x1 x2 st.1 st.2.1 st.2.2) FU (x3_1, x4_2, mm)).bind (fun t => fX12_comesBack_j83 sh t.1 t.2)
def fX12_isJoined_j86 (sh : Shp) (s0 : Int32) (mm : Mem) : Option (Int32 × Mem) :=
  (ckZ s0).bind fun v1 => some (v1, mm)
def fX12_isJoined_j77 (sh : Shp) (x3 : Int32) (mm : Mem) : Option (Int32 × Mem) :=
  if x3 = 0 then (fX12_isJoined_j86 sh 0 mm)
  else (fX12_isJoined_j86 sh 1 mm)
def fX12_isJoined_j71 (sh : Shp) (x0 : Nat) (x1 : Int32) (x3 : Int32) (x4 : Int32) (mm : Mem) : Option ((Int32 × Mem) ⊕ ((Mem))) :=
  lt1 (x4 + 1) fun x4_7 =>
  some (.inl (x4_7, mm))
def fX12_isJoined_b10 (sh : Shp) (x0 : Nat) (x1 : Int32) (x3 : Int32) (x4 : Int32) (mm : Mem) : Option ((Int32 × Mem) ⊕ ((Mem))) :=
  if 7 ≤ x4 then (some (.inr mm))
  else (if ((x3 >>> (x4 &&& 31)) &&& 1) = 0 then (fX12_isJoined_j71 sh x0 x1 x3 x4 mm)
  else ((rR sh 12 x0 37).bind fun a10 =>
  (fX12_in 0 x1 x4).bind fun v11 =>
  (aL sh mm a10 v11).bind fun v12 =>
  (rR sh 12 x0 37).bind fun a13 =>
  (fX12_in 42 x1 x4).bind fun v14 =>
  (aL sh mm a13 v14).bind fun v15 =>
  (aS sh mm a10 v11 (v12 + v15)).bind fun m16 =>
  (rR sh 12 x0 37).bind fun a17 =>
  (fX12_in 42 x1 x4).bind fun v18 =>
  (aS sh m16 a17 v18 0).bind fun m19 =>
  fX12_isJoined_j71 sh x0 x1 x3 x4 m19))
def fX12_isJoined (sh : Shp) (x0 : Nat) (x1 : Int32) (x2 : Int32) (mm : Mem) : Option (Int32 × Mem) :=
  (isO sh 12 x0).bind fun _ =>
  bd2 (fX12_comesBack sh x0 x1 x2 mm) fun v3 m4 =>
  lt1 v3 fun x3_5 =>
  lt1 0 fun x4_6 =>
  (loopN (fun st : Int32 × Mem => fX12_isJoined_b10 sh x0 x1 x3_5 st.1 st.2) FU (x4_6, m4)).bind (fun t => fX12_isJoined_j77 sh x3_5 t)
def fX12_isMoved (sh : Shp) (x0 : Nat) (x1 : Int32) (x2 : Int32) (x3 : Int32) (mm : Mem) : Option (Int32 × Mem) :=
  (rR sh 12 x0 37).bind fun a1 =>
  (aL sh mm a1 x1).bind fun v2 =>
  if x3 ≤ v2 then ((rR sh 12 x0 37).bind fun a4 =>
  (aL sh mm a4 x1).bind fun v5 =>
  (aS sh mm a4 x1 (v5 - x3)).bind fun m6 =>
  (rR sh 12 x0 37).bind fun a7 =>
  (aL sh m6 a7 x2).bind fun v8 =>
  (aS sh m6 a7 x2 (v8 + x3)).bind fun m9 =>
  some (1, m9))
  else (some (0, mm))
def fX12_isSwapped_j34 (sh : Shp) (mm : Mem) : Option (Int32 × Mem) :=
  some (0, mm)
def fX12_isSwapped (sh : Shp) (x0 : Nat) (x1 : Int32) (x2 : Int32) (x3 : Int32) (mm : Mem) : Option (Int32 × Mem) :=
  (rR sh 12 x0 37).bind fun a1 =>
  (fX12_in 0 x1 x3).bind fun v2 =>
  (aL sh mm a1 v2).bind fun v3 =>
  lt1 v3 fun x4_4 =>
  if x1 = x2 then (fX12_isSwapped_j34 sh mm)
  else ((rR sh 12 x0 37).bind fun a6 =>
  (fX12_in 0 x2 x3).bind fun v7 =>
  (aL sh mm a6 v7).bind fun v8 =>
  if x4_4 = v8 then (fX12_isSwapped_j34 sh mm)
  else ((rR sh 12 x0 37).bind fun a10 =>
  (fX12_in 0 x1 x3).bind fun v11 =>
  (rR sh 12 x0 37).bind fun a12 =>
  (fX12_in 0 x2 x3).bind fun v13 =>
  (aL sh mm a12 v13).bind fun v14 =>
  (aS sh mm a10 v11 v14).bind fun m15 =>
  (rR sh 12 x0 37).bind fun a16 =>
  (fX12_in 0 x2 x3).bind fun v17 =>
  (aS sh m15 a16 v17 x4_4).bind fun m18 =>
  some (1, m18)))
def fX12_passes_j38 (sh : Shp) (x0 : Nat) (mm : Mem) : Option (Mem) :=
  (rR sh 12 x0 37).bind fun a1 =>
  (aL sh mm a1 174).bind fun v2 =>
  (aS sh mm a1 174 (v2 + 1)).bind fun m3 =>
  some m3
def fX12_passes_j30 (sh : Shp) (x0 : Nat) (x1 : Int32) (s0 : Nat) (s1 : Int32) (s2 : Int32) (s3 : Int32) (mm : Mem) : Option ((Int32 × Mem) ⊕ ((Mem))) :=
  (aS sh mm s0 s1 (s2 - s3)).bind fun m5 =>
  lt1 (x1 + 1) fun x1_6 =>
  some (.inl (x1_6, m5))
def fX12_passes_b3 (sh : Shp) (x0 : Nat) (x1 : Int32) (mm : Mem) : Option ((Int32 × Mem) ⊕ ((Mem))) :=
  if 84 ≤ x1 then (some (.inr mm))
  else ((rR sh 12 x0 37).bind fun a8 =>
  (aL sh mm a8 x1).bind fun v9 =>
  (rR sh 12 x0 37).bind fun a10 =>
  (aL sh mm a10 x1).bind fun v11 =>
  if v11 ≤ 0 then (fX12_passes_j30 sh x0 x1 a8 x1 v9 0 mm)
  else (fX12_passes_j30 sh x0 x1 a8 x1 v9 1 mm))
def fX12_passes (sh : Shp) (x0 : Nat) (mm : Mem) : Option (Mem) :=
  lt1 42 fun x1_4 =>
  (loopN (fun st : Int32 × Mem => fX12_passes_b3 sh x0 st.1 st.2) FU (x1_4, mm)).bind (fun t => fX12_passes_j38 sh x0 t)
def fX12_isDone (sh : Shp) (x0 : Nat) (x1 : Int32) (x2 : Int32) (x3 : Int32) (x4 : Int32) (mm : Mem) : Option (Int32 × Mem) :=
  if x1 = 0 then ((isO sh 12 x0).bind fun _ =>
  bd2 (fX12_isParted sh x0 x2 x3 mm) fun v26 m27 =>
  (ckZ v26).bind fun v28 => some (v28, m27))
  else (if x1 = 1 then ((isO sh 12 x0).bind fun _ =>
  bd2 (fX12_isJoined sh x0 x2 x3 mm) fun v23 m24 =>
  (ckZ v23).bind fun v25 => some (v25, m24))
  else (if x1 = 2 then ((fX12_in 0 x2 x3).bind fun v18 =>
  (fX12_in 126 x2 x3).bind fun v19 =>
  (isO sh 12 x0).bind fun _ =>
  bd2 (fX12_isMoved sh x0 v18 v19 x4 mm) fun v20 m21 =>
  (ckZ v20).bind fun v22 => some (v22, m21))
  else (if x1 = 3 then ((fX12_in 126 x2 x3).bind fun v13 =>
  (fX12_in 0 x2 x3).bind fun v14 =>
  (isO sh 12 x0).bind fun _ =>
  bd2 (fX12_isMoved sh x0 v13 v14 x4 mm) fun v15 m16 =>
  (ckZ v15).bind fun v17 => some (v17, m16))
  else (if x1 = 4 then ((isO sh 12 x0).bind fun _ =>
  bd2 (fX12_isSwapped sh x0 x2 x3 x4 mm) fun v10 m11 =>
  (ckZ v10).bind fun v12 => some (v12, m11))
  else ((rR sh 12 x0 37).bind fun a6 =>
  (aL sh mm a6 174).bind fun v7 =>
  if v7 < 400 then ((isO sh 12 x0).bind fun _ =>
  (fX12_passes sh x0 mm).bind fun m9 =>
  some (1, m9))
  else (some (0, mm)))))))
def fX12_book_j156 (sh : Shp) (x0 : Nat) (x2 : Int32) (mm : Mem) : Option (Int32 × Mem) :=
  (isO sh 12 x0).bind fun _ =>
  bd2 (fX12_result sh x0 x2 mm) fun v1 m2 =>
  lt1 v1 fun x3_3 =>
  (rI sh m2 12 x0 5).bind fun v4 =>
  if v4 = (-1) then ((wI sh m2 12 x0 42 x2).bind fun m6 =>
  (rR sh 12 x0 40).bind fun a7 =>
  (rR sh 12 x0 41).bind fun a8 =>
  (isO sh 12 x0).bind fun _ =>
  (fX12_copies sh x0 a7 a8 16 m6).bind fun m9 =>
  some (x3_3, m9))
  else (some (x3_3, m2))
def fX12_book_j125 (sh : Shp) (x0 : Nat) (x2 : Int32) (mm : Mem) : Option (Int32 × Mem) :=
  fX12_book_j156 sh x0 x2 mm
def fX12_book_j102 (sh : Shp) (x0 : Nat) (x2 : Int32) (x4 : Int32) (mm : Mem) : Option ((Int32 × Mem) ⊕ ((Int32 × Mem) ⊕ (Int32 × Mem))) :=
  (isO sh 12 x0).bind fun _ =>
  bd2 (fX12_readNumber sh x0 0 400 mm) fun v15 m16 =>
  lt1 v15 fun x5_17 =>
  (isO sh 12 x0).bind fun _ =>
  (fX12_sign sh x0 59 m16).bind fun m18 =>
  (isO sh 12 x0).bind fun _ =>
  (fX12_fine sh x0 m18).bind fun v19 =>
  if v19 = 0 then (some (.inr (Sum.inl (x2, m18))))
  else ((rR sh 12 x0 40).bind fun a21 =>
  (aS sh m18 a21 (2 * x2) x4).bind fun m22 =>
  (rR sh 12 x0 40).bind fun a23 =>
  (aS sh m22 a23 ((2 * x2) + 1) x5_17).bind fun m24 =>
  lt1 (x2 + 1) fun x2_25 =>
  some (.inl (x2_25, m24)))
def fX12_book_b46 (sh : Shp) (x0 : Nat) (x2 : Int32) (mm : Mem) : Option ((Int32 × Mem) ⊕ ((Int32 × Mem) ⊕ (Int32 × Mem))) :=
  (isO sh 12 x0).bind fun _ =>
  (fX12_fine sh x0 mm).bind fun v26 =>
  if v26 = 0 then (some (.inr (Sum.inr ((x2, mm)))))
  else ((isO sh 12 x0).bind fun _ =>
  bd2 (fX12_isMore sh x0 mm) fun v28 m29 =>
  if v28 = 0 then (some (.inr (Sum.inr ((x2, m29)))))
  else ((isO sh 12 x0).bind fun _ =>
  bd2 (fX12_here sh x0 m29) fun v31 m32 =>
  (rI sh m32 12 x0 4).bind fun v33 =>
  lt1 v33 fun x3_34 =>
  (rI sh m32 12 x0 19).bind fun v35 =>
  (isO sh 12 x0).bind fun _ =>
  bd2 (fX12_readNumber sh x0 0 (v35 - 1) m32) fun v36 m37 =>
  lt1 v36 fun x4_38 =>
  (isO sh 12 x0).bind fun _ =>
  (fX12_fine sh x0 m37).bind fun v39 =>
  if v39 = 0 then (fX12_book_j102 sh x0 x2 x4_38 m37)
  else (if x2 = 8 then ((isO sh 12 x0).bind fun _ =>
  (fX12_wrong sh x0 3 x3_34 m37).bind fun m42 =>
  fX12_book_j102 sh x0 x2 x4_38 m42)
  else (fX12_book_j102 sh x0 x2 x4_38 m37))))
def fX12_book_j29 (sh : Shp) (x0 : Nat) (x1 : Int32) (s0 : Nat) (s1 : Int32) (mm : Mem) : Option (Int32 × Mem) :=
  (isO sh 12 s0).bind fun _ =>
  bd2 (fX12_may sh s0 s1 1 1 mm) fun v10 m11 =>
  if v10 = 0 then (some (0, m11))
  else ((isO sh 12 x0).bind fun _ =>
  (fX12_begins sh x0 x1 m11).bind fun m13 =>
  lt1 0 fun x2_14 =>
  (loopN (fun st : Int32 × Mem => fX12_book_b46 sh x0 st.1 st.2) FU (x2_14, m13)).bind (Sum.elim (fun t => fX12_book_j125 sh x0 t.1 t.2) (fun t => fX12_book_j156 sh x0 t.1 t.2)))
def fX12_book_j28 (sh : Shp) (x0 : Nat) (x1 : Int32) (s0 : Nat) (mm : Mem) : Option (Int32 × Mem) :=
  fX12_book_j29 sh x0 x1 s0 0 mm
def fX12_book (sh : Shp) (x0 : Nat) (x1 : Int32) (mm : Mem) : Option (Int32 × Mem) :=
  (wI sh mm 12 x0 0 0).bind fun m43 =>
  if x1 < 0 then (fX12_book_j28 sh x0 x1 x0 m43)
  else ((rI sh m43 12 x0 2).bind fun v45 =>
  if v45 < x1 then (fX12_book_j28 sh x0 x1 x0 m43)
  else (if 60 < x1 then (fX12_book_j28 sh x0 x1 x0 m43)
  else (fX12_book_j29 sh x0 x1 x0 1 m43)))
def fX12_undo_j60 (sh : Shp) (x0 : Nat) (mm : Mem) : Option (Int32 × Mem) :=
  (wI sh mm 12 x0 32 0).bind fun m1 =>
  (rI sh m1 12 x0 31).bind fun v2 =>
  some (v2, m1)
def fX12_undo_b26 (sh : Shp) (x0 : Nat) (x1 : Int32) (mm : Mem) : Option ((Int32 × Mem) ⊕ ((Mem))) :=
  if 175 ≤ x1 then (some (.inr mm))
  else ((rR sh 12 x0 36).bind fun a10 =>
  (rR sh 12 x0 38).bind fun a11 =>
  (rI sh mm 12 x0 31).bind fun v12 =>
  (aL sh mm a11 ((175 * v12) + x1)).bind fun v13 =>
  (aS sh mm a10 x1 v13).bind fun m14 =>
  lt1 (x1 + 1) fun x1_15 =>
  some (.inl (x1_15, m14)))
def fX12_undo (sh : Shp) (x0 : Nat) (mm : Mem) : Option (Int32 × Mem) :=
  (wI sh mm 12 x0 0 0).bind fun m3 =>
  (rI sh m3 12 x0 31).bind fun v4 =>
  if v4 = 0 then (some ((-1), m3))
  else ((rI sh m3 12 x0 31).bind fun v6 =>
  (wI sh m3 12 x0 31 (v6 - 1)).bind fun m7 =>
  lt1 0 fun x1_8 =>
  (loopN (fun st : Int32 × Mem => fX12_undo_b26 sh x0 st.1 st.2) FU (x1_8, m7)).bind (fun t => fX12_undo_j60 sh x0 t))
def fX12_isWhite_j69 (sh : Shp) (x2 : Int32) (mm : Mem) : Option (Int32) :=
  (ckZ x2).bind fun v1 => some v1
def fX12_isWhite_j62 (sh : Shp) (x0 : Nat) (x1 : Int32) (x3 : Int32) (s0 : Int32) (mm : Mem) : Option ((Int32 × Int32) ⊕ ((Int32))) :=
  lt1 s0 fun x2_4 =>
  lt1 (x3 + 1) fun x3_5 =>
  some (.inl (x2_4, x3_5))
def fX12_isWhite_j61 (sh : Shp) (x0 : Nat) (x1 : Int32) (x3 : Int32) (mm : Mem) : Option ((Int32 × Int32) ⊕ ((Int32))) :=
  fX12_isWhite_j62 sh x0 x1 x3 0 mm
def fX12_isWhite_b22 (sh : Shp) (x0 : Nat) (x1 : Int32) (x2 : Int32) (x3 : Int32) (mm : Mem) : Option ((Int32 × Int32) ⊕ ((Int32))) :=
  if 7 ≤ x3 then (some (.inr x2))
  else (if x2 = 0 then (fX12_isWhite_j61 sh x0 x1 x3 mm)
  else ((rR sh 12 x0 37).bind fun a8 =>
  (fX12_in 0 x1 x3).bind fun v9 =>
  (aL sh mm a8 v9).bind fun v10 =>
  (rR sh 12 x0 37).bind fun a11 =>
  (fX12_in 0 x1 0).bind fun v12 =>
  (aL sh mm a11 v12).bind fun v13 =>
  if v10 = v13 then (fX12_isWhite_j62 sh x0 x1 x3 1 mm)
  else (fX12_isWhite_j61 sh x0 x1 x3 mm)))
def fX12_isWhite_j19 (sh : Shp) (x0 : Nat) (x1 : Int32) (s0 : Int32) (mm : Mem) : Option (Int32) :=
  lt1 s0 fun x2_2 =>
  lt1 1 fun x3_3 =>
  (loopN (fun st : Int32 × Int32 => fX12_isWhite_b22 sh x0 x1 st.1 st.2 mm) FU (x2_2, x3_3)).bind (fun t => fX12_isWhite_j69 sh t mm)
def fX12_isWhite (sh : Shp) (x0 : Nat) (x1 : Int32) (mm : Mem) : Option (Int32) :=
  (rR sh 12 x0 37).bind fun a15 =>
  (fX12_in 0 x1 0).bind fun v16 =>
  (aL sh mm a15 v16).bind fun v17 =>
  if v17 ≤ 0 then (fX12_isWhite_j19 sh x0 x1 0 mm)
  else (fX12_isWhite_j19 sh x0 x1 1 mm)
def fX12_whites_j36 (sh : Shp) (x1 : Int32) (mm : Mem) : Option (Int32) :=
  some x1
def fX12_whites_j28 (sh : Shp) (x0 : Nat) (x2 : Int32) (s0 : Int32) (s1 : Int32) (mm : Mem) : Option ((Int32 × Int32) ⊕ ((Int32))) :=
  lt1 (s0 ||| s1) fun x1_3 =>
  lt1 (x2 + 1) fun x2_4 =>
  some (.inl (x1_3, x2_4))
def fX12_whites_b4 (sh : Shp) (x0 : Nat) (x1 : Int32) (x2 : Int32) (mm : Mem) : Option ((Int32 × Int32) ⊕ ((Int32))) :=
  (rI sh mm 12 x0 17).bind fun v5 =>
  if v5 ≤ x2 then (some (.inr x1))
  else ((isO sh 12 x0).bind fun _ =>
  (fX12_isWhite sh x0 x2 mm).bind fun v7 =>
  if v7 = 0 then (fX12_whites_j28 sh x0 x2 x1 0 mm)
  else (fX12_whites_j28 sh x0 x2 x1 (1 <<< (x2 &&& 31)) mm))
def fX12_whites (sh : Shp) (x0 : Nat) (mm : Mem) : Option (Int32) :=
  lt1 0 fun x1_1 =>
  lt1 0 fun x2_2 =>
  (loopN (fun st : Int32 × Int32 => fX12_whites_b4 sh x0 st.1 st.2 mm) FU (x1_1, x2_2)).bind (fun t => fX12_whites_j36 sh t mm)
def fX12_wallOf (sh : Shp) (x0 : Nat) (x1 : Int32) (mm : Mem) : Option (Int32) :=
  (fX12_in 42 x1 0).bind fun v1 =>
  (isO sh 12 x0).bind fun _ =>
  (fX12_sumOf sh x0 v1 7 mm).bind fun v2 =>
  some v2
def fX12_scattered_j36 (sh : Shp) (x1 : Int32) (mm : Mem) : Option (Int32) :=
  some x1
def fX12_scattered_j28 (sh : Shp) (x0 : Nat) (x2 : Int32) (s0 : Int32) (s1 : Int32) (mm : Mem) : Option ((Int32 × Int32) ⊕ ((Int32))) :=
  lt1 (s0 ||| s1) fun x1_3 =>
  lt1 (x2 + 1) fun x2_4 =>
  some (.inl (x1_3, x2_4))
def fX12_scattered_b4 (sh : Shp) (x0 : Nat) (x1 : Int32) (x2 : Int32) (mm : Mem) : Option ((Int32 × Int32) ⊕ ((Int32))) :=
  (rI sh mm 12 x0 17).bind fun v5 =>
  if v5 ≤ x2 then (some (.inr x1))
  else ((isO sh 12 x0).bind fun _ =>
  (fX12_wallOf sh x0 x2 mm).bind fun v7 =>
  if v7 ≤ 0 then (fX12_scattered_j28 sh x0 x2 x1 0 mm)
  else (fX12_scattered_j28 sh x0 x2 x1 (1 <<< (x2 &&& 31)) mm))
def fX12_scattered (sh : Shp) (x0 : Nat) (mm : Mem) : Option (Int32) :=
  lt1 0 fun x1_1 =>
  lt1 0 fun x2_2 =>
  (loopN (fun st : Int32 × Int32 => fX12_scattered_b4 sh x0 st.1 st.2 mm) FU (x1_1, x2_2)).bind (fun t => fX12_scattered_j36 sh t mm)
set_option maxHeartbeats 4000000 in
set_option maxRecDepth 100000 in
theorem wX12_thrown {p : Program} {l : Launch} {e : Env} {R : Room} {s : State} {m : MethodId} {args : Array Value} {below : List Frame} {meth : Method} {c : Code} {Q : State → Prop} {E : Ev} (X : Cx p s m args c cX12_thrown RX12 E) (hml : c.maxLocals = 1) (hR : 0 ≤ R.frames ∧ 0 ≤ R.locals) {x0 : Nat} {mm : Mem} {r : Int32} (hf : fX12_thrown (eS E) x0 mm = some r) (hret : ∀ (pc : Nat) (H : Heap) (locs : List Loc) (ls : Array Slot), narrow .int (.int r) = .int r → decode cX12_thrown pc = .ok (.ireturn, 1) → wS E s mm H locs → W p l e R s m args below meth c H locs 0 0 Q (F0 m pc ls [.int r])) : ∀ (H : Heap) (locs : List Loc) (ls : Array Slot), wS E s mm H locs → lv_has ls 1 [(0, .ref x0)] → W p l e R s m args below meth c H locs 0 0 Q (F0 m 0 ls []) := by
  have hx := X.1
  have hb := X.2.1
  have hR1 := hR.1
  have hR2 := hR.2
  have hRa : 0 ≤ R.frames := by omega
  have hRb : 0 ≤ R.locals := by omega
  unfold fX12_thrown at hf
  intro H locs ls hS hl
  refine lv_aload_n hx hb dX12_thrown_0 rfl (lv_at hl 0 rfl) ?_
  obtain ⟨v1, h1, hf⟩ := bs hf
  refine am_gi X hS fl_X12_3 rfl h1 dX12_thrown_1 ?_
  cases hf
  exact hret _ _ _ _ rfl dX12_thrown_4 hS
set_option maxRecDepth 100000 in
theorem cX12_thrown_ok {l : Launch} {E : Ev} {x0 : Nat} {mm : Mem} {r : Int32} (hf : fX12_thrown (eS E) x0 mm = some r) : CtI l yX12_thrown cX12_thrown 1 (some .int) (0) (0) E [.ref x0] mm r mm := by
  refine Met.ofW (cc := cX12_thrown) (maxL := 1) (ret := (some .int)) (by decide) rfl ?_
  intro p e s m args below meth c s₁ B hml hv
  obtain ⟨rfl, X, hS, hr, hlocks⟩ := am_in B hv
  refine am_entry (Nat.le_of_ble_eq_true rfl) (fun ls hl => ?_)
  exact wX12_thrown X hml ⟨Nat.le_refl _, Nat.le_refl _⟩ hf (fun pc H locs ls hn hd hS => am_ri X hS hr hn hd hlocks) _ _ ls hS hl
set_option maxHeartbeats 4000000 in
set_option maxRecDepth 100000 in
theorem wX12_may {p : Program} {l : Launch} {e : Env} {R : Room} {s : State} {m : MethodId} {args : Array Value} {below : List Frame} {meth : Method} {c : Code} {Q : State → Prop} {E : Ev} (X : Cx p s m args c cX12_may RX12 E) (hml : c.maxLocals = 4) (hR : 0 ≤ R.frames ∧ 0 ≤ R.locals) {x0 : Nat} {x1 : Int32} {x2 : Int32} {x3 : Int32} {mm : Mem} {r : Int32} {mm1 : Mem} (hf : fX12_may (eS E) x0 x1 x2 x3 mm = some (r, mm1)) (hret : ∀ (pc : Nat) (H : Heap) (locs : List Loc) (ls : Array Slot), narrow .boolean (.int r) = .int r → decode cX12_may pc = .ok (.ireturn, 1) → wS E s mm1 H locs → W p l e R s m args below meth c H locs 0 0 Q (F0 m pc ls [.int r])) : ∀ (H : Heap) (locs : List Loc) (ls : Array Slot), wS E s mm H locs → lv_has ls 4 [(0, .ref x0), (1, .int x1), (2, .int x2), (3, .int x3)] → W p l e R s m args below meth c H locs 0 0 Q (F0 m 0 ls []) := by
  have hx := X.1
  have hb := X.2.1
  have hR1 := hR.1
  have hR2 := hR.2
  have hRa : 0 ≤ R.frames := by omega
  have hRb : 0 ≤ R.locals := by omega
  unfold fX12_may at hf
  have hj38 : ∀ (s0 : Int32) (mm : Mem) (H : Heap) (locs : List Loc) (ls : Array Slot), fX12_may_j38 (eS E) s0 mm = some (r, mm1) → wS E s mm H locs → lv_has ls 4 [] → W p l e R s m args below meth c H locs 0 0 Q (F0 m 38 ls [.int s0]) := by
    intro s0 mm H locs ls hf hS hl
    unfold fX12_may_j38 at hf
    obtain ⟨v1, h1, hf⟩ := bs hf
    obtain ⟨rfl, h2⟩ := ckZ_n h1
    cases hf
    exact hret _ _ _ _ h2 dX12_may_38 hS
  have hj26 : ∀ (x0 : Nat) (mm : Mem) (H : Heap) (locs : List Loc) (ls : Array Slot), fX12_may_j26 (eS E) x0 mm = some (r, mm1) → wS E s mm H locs → lv_has ls 4 [(0, .ref x0)] → W p l e R s m args below meth c H locs 0 0 Q (F0 m 26 ls []) := by
    intro x0 mm H locs ls hf hS hl
    unfold fX12_may_j26 at hf
    refine lv_aload_n hx hb dX12_may_26 rfl (lv_at hl 0 rfl) ?_
    obtain ⟨v2, h1, hf⟩ := bs hf
    refine am_gi X hS fl_X12_3 rfl h1 dX12_may_27 ?_
    refine lv_if_ne (tgt := 37) hx hb dX12_may_30 (by decide) (fun q3 => ?_) (fun q3 => ?_)
    · have hf := ifn hf q3
      refine lv_iconst (v := 0) hx hb dX12_may_37 (by decide) ?_
      exact hj38 0 mm H locs ls hf hS (lv_sub hl [] rfl)
    · have hf := ifp hf q3
      refine lv_iconst (v := 1) hx hb dX12_may_33 (by decide) ?_
      refine lv_goto (tgt := 38) hx hb dX12_may_34 (by decide) ?_
      exact hj38 1 mm H locs ls hf hS (lv_sub hl [] rfl)
  intro H locs ls hS hl
  refine lv_iload_n hx hb dX12_may_0 rfl (lv_at hl 1 rfl) ?_
  refine lv_if_ne (tgt := 26) hx hb dX12_may_1 (by decide) (fun q4 => ?_) (fun q4 => ?_)
  · have hf := ifn hf q4
    exact hj26 x0 mm H locs ls hf hS (lv_sub hl [0] rfl)
  · have hf := ifp hf q4
    refine lv_aload_n hx hb dX12_may_4 rfl (lv_at hl 0 rfl) ?_
    obtain ⟨v5, h1, hf⟩ := bs hf
    refine am_gi X hS fl_X12_3 rfl h1 dX12_may_5 ?_
    refine lv_if_ne (tgt := 26) hx hb dX12_may_8 (by decide) (fun q6 => ?_) (fun q6 => ?_)
    · have hf := ifn hf q6
      exact hj26 x0 mm H locs ls hf hS (lv_sub hl [0] rfl)
    · have hf := ifp hf q6
      refine lv_aload_n hx hb dX12_may_11 rfl (lv_at hl 0 rfl) ?_
      refine lv_iload_n hx hb dX12_may_12 rfl (lv_at hl 2 rfl) ?_
      obtain ⟨m7, h1, hf⟩ := bs hf
      refine am_pi X hS fp_X12_3 rfl h1 dX12_may_13 (fun H locs hS => ?_)
      refine lv_aload_n hx hb dX12_may_16 rfl (lv_at hl 0 rfl) ?_
      obtain ⟨a8, h1, hf⟩ := bs hf
      refine am_gr X hS fl_X12_7 rfl h1 dX12_may_17 ?_
      refine lv_iload_n hx hb dX12_may_20 rfl (lv_at hl 3 rfl) ?_
      refine lv_dup2_11 hx hb dX12_may_21 rfl rfl ?_
      obtain ⟨v9, h1, hf⟩ := bs hf
      refine am_ald X hS h1 dX12_may_22 ?_
      refine lv_iconst (v := 1) hx hb dX12_may_23 (by decide) ?_
      refine lv_iadd hx hb dX12_may_24 ?_
      obtain ⟨m10, h1, hf⟩ := bs hf
      refine am_ast X hS h1 dX12_may_25 (fun H locs hS => ?_)
      exact hj26 x0 m10 H locs ls hf hS (lv_sub hl [0] rfl)
set_option maxRecDepth 100000 in
theorem cX12_may_ok {l : Launch} {E : Ev} {x0 : Nat} {x1 : Int32} {x2 : Int32} {x3 : Int32} {mm : Mem} {r : Int32} {mm1 : Mem} (hf : fX12_may (eS E) x0 x1 x2 x3 mm = some (r, mm1)) : CtI l yX12_may cX12_may 4 (some .boolean) (0) (0) E [.ref x0, .int x1, .int x2, .int x3] mm r mm1 := by
  refine Met.ofW (cc := cX12_may) (maxL := 4) (ret := (some .boolean)) (by decide) rfl ?_
  intro p e s m args below meth c s₁ B hml hv
  obtain ⟨rfl, X, hS, hr, hlocks⟩ := am_in B hv
  refine am_entry (Nat.le_of_ble_eq_true rfl) (fun ls hl => ?_)
  exact wX12_may X hml ⟨Nat.le_refl _, Nat.le_refl _⟩ hf (fun pc H locs ls hn hd hS => am_ri X hS hr hn hd hlocks) _ _ ls hS hl
set_option maxHeartbeats 4000000 in
set_option maxRecDepth 100000 in
theorem wX12_within {p : Program} {l : Launch} {e : Env} {R : Room} {s : State} {m : MethodId} {args : Array Value} {below : List Frame} {meth : Method} {c : Code} {Q : State → Prop} {E : Ev} (X : Cx p s m args c cX12_within RX12 E) (hml : c.maxLocals = 3) (hR : 0 ≤ R.frames ∧ 0 ≤ R.locals) {x0 : Int32} {x1 : Int32} {x2 : Int32} {mm : Mem} {r : Int32} (hf : fX12_within x0 x1 x2 = some r) (hret : ∀ (pc : Nat) (H : Heap) (locs : List Loc) (ls : Array Slot), narrow .boolean (.int r) = .int r → decode cX12_within pc = .ok (.ireturn, 1) → wS E s mm H locs → W p l e R s m args below meth c H locs 0 0 Q (F0 m pc ls [.int r])) : ∀ (H : Heap) (locs : List Loc) (ls : Array Slot), wS E s mm H locs → lv_has ls 3 [(0, .int x0), (1, .int x1), (2, .int x2)] → W p l e R s m args below meth c H locs 0 0 Q (F0 m 0 ls []) := by
  have hx := X.1
  have hb := X.2.1
  have hR1 := hR.1
  have hR2 := hR.2
  have hRa : 0 ≤ R.frames := by omega
  have hRb : 0 ≤ R.locals := by omega
  unfold fX12_within at hf
  have hj15 : ∀ (s0 : Int32) (H : Heap) (locs : List Loc) (ls : Array Slot), fX12_within_j15 s0 = some r → wS E s mm H locs → lv_has ls 3 [] → W p l e R s m args below meth c H locs 0 0 Q (F0 m 15 ls [.int s0]) := by
    intro s0 H locs ls hf hS hl
    unfold fX12_within_j15 at hf
    obtain ⟨v1, h1, hf⟩ := bs hf
    obtain ⟨rfl, h2⟩ := ckZ_n h1
    cases hf
    exact hret _ _ _ _ h2 dX12_within_15 hS
  have hj14 : ∀ (H : Heap) (locs : List Loc) (ls : Array Slot), fX12_within_j14 = some r → wS E s mm H locs → lv_has ls 3 [] → W p l e R s m args below meth c H locs 0 0 Q (F0 m 14 ls []) := by
    intro H locs ls hf hS hl
    unfold fX12_within_j14 at hf
    refine lv_iconst (v := 0) hx hb dX12_within_14 (by decide) ?_
    exact hj15 0 H locs ls hf hS hl
  intro H locs ls hS hl
  refine lv_iload_n hx hb dX12_within_0 rfl (lv_at hl 0 rfl) ?_
  refine lv_iload_n hx hb dX12_within_1 rfl (lv_at hl 1 rfl) ?_
  refine lv_icmp_lt (tgt := 14) hx hb dX12_within_2 (by decide) (fun q2 => ?_) (fun q2 => ?_)
  · have hf := ifp hf q2
    exact hj14  H locs ls hf hS (lv_sub hl [] rfl)
  · have hf := ifn hf q2
    refine lv_iload_n hx hb dX12_within_5 rfl (lv_at hl 0 rfl) ?_
    refine lv_iload_n hx hb dX12_within_6 rfl (lv_at hl 2 rfl) ?_
    refine lv_icmp_gt (tgt := 14) hx hb dX12_within_7 (by decide) (fun q3 => ?_) (fun q3 => ?_)
    · have hf := ifp hf q3
      exact hj14  H locs ls hf hS (lv_sub hl [] rfl)
    · have hf := ifn hf q3
      refine lv_iconst (v := 1) hx hb dX12_within_10 (by decide) ?_
      refine lv_goto (tgt := 15) hx hb dX12_within_11 (by decide) ?_
      exact hj15 1 H locs ls hf hS (lv_sub hl [] rfl)
set_option maxRecDepth 100000 in
theorem cX12_within_ok {l : Launch} {E : Ev} {x0 : Int32} {x1 : Int32} {x2 : Int32} {mm : Mem} {r : Int32} (hf : fX12_within x0 x1 x2 = some r) : CtI l yX12_within cX12_within 3 (some .boolean) (0) (0) E [.int x0, .int x1, .int x2] mm r mm := by
  refine Met.ofW (cc := cX12_within) (maxL := 3) (ret := (some .boolean)) (by decide) rfl ?_
  intro p e s m args below meth c s₁ B hml hv
  obtain ⟨rfl, X, hS, hr, hlocks⟩ := am_in B hv
  refine am_entry (Nat.le_of_ble_eq_true rfl) (fun ls hl => ?_)
  exact wX12_within X hml ⟨Nat.le_refl _, Nat.le_refl _⟩ hf (fun pc H locs ls hn hd hS => am_ri X hS hr hn hd hlocks) _ _ ls hS hl
set_option maxHeartbeats 4000000 in
set_option maxRecDepth 100000 in
theorem wX12_feed {p : Program} {l : Launch} {e : Env} {R : Room} {s : State} {m : MethodId} {args : Array Value} {below : List Frame} {meth : Method} {c : Code} {Q : State → Prop} {E : Ev} (X : Cx p s m args c cX12_feed RX12 E) (hml : c.maxLocals = 8) (hR : 0 ≤ R.frames ∧ 0 ≤ R.locals) {x0 : Nat} {x1 : Int32} {x2 : Int32} {x3 : Int32} {x4 : Int32} {x5 : Int32} {mm : Mem} {r : Int32} {mm1 : Mem} (hf : fX12_feed (eS E) x0 x1 x2 x3 x4 x5 mm = some (r, mm1)) (hret : ∀ (pc : Nat) (H : Heap) (locs : List Loc) (ls : Array Slot), narrow .int (.int r) = .int r → decode cX12_feed pc = .ok (.ireturn, 1) → wS E s mm1 H locs → W p l e R s m args below meth c H locs 0 0 Q (F0 m pc ls [.int r])) : ∀ (H : Heap) (locs : List Loc) (ls : Array Slot), wS E s mm H locs → lv_has ls 8 [(0, .ref x0), (1, .int x1), (2, .int x2), (3, .int x3), (4, .int x4), (5, .int x5)] → W p l e R s m args below meth c H locs 0 0 Q (F0 m 0 ls []) := by
  have hx := X.1
  have hb := X.2.1
  have hR1 := hR.1
  have hR2 := hR.2
  have hRa : 0 ≤ R.frames := by omega
  have hRb : 0 ≤ R.locals := by omega
  unfold fX12_feed at hf
  have hj120 : ∀ (x0 : Nat) (mm : Mem) (H : Heap) (locs : List Loc) (ls : Array Slot), fX12_feed_j120 (eS E) x0 mm = some (r, mm1) → wS E s mm H locs → lv_has ls 8 [(0, .ref x0)] → W p l e R s m args below meth c H locs 0 0 Q (F0 m 120 ls []) := by
    intro x0 mm H locs ls hf hS hl
    unfold fX12_feed_j120 at hf
    refine lv_aload_n hx hb dX12_feed_120 rfl (lv_at hl 0 rfl) ?_
    obtain ⟨v1, h1, hf⟩ := bs hf
    refine am_gi X hS fl_X12_95 rfl h1 dX12_feed_121 ?_
    cases hf
    exact hret _ _ _ _ rfl dX12_feed_124 hS
  intro H locs ls hS hl
  refine lv_aload_n hx hb dX12_feed_0 rfl (lv_at hl 0 rfl) ?_
  refine lv_iconst (v := 0) hx hb dX12_feed_1 (by decide) ?_
  obtain ⟨m2, h1, hf⟩ := bs hf
  refine am_pi X hS fp_X12_3 rfl h1 dX12_feed_2 (fun H locs hS => ?_)
  refine lv_aload_n hx hb dX12_feed_5 rfl (lv_at hl 0 rfl) ?_
  obtain ⟨v3, h1, hf⟩ := bs hf
  refine am_gi X hS fl_X12_95 rfl h1 dX12_feed_6 ?_
  refine lv_bipush (v := 20) hx hb dX12_feed_9 (by decide) ?_
  refine lv_iadd hx hb dX12_feed_11 ?_
  refine lv_sipush (v := 600) hx hb dX12_feed_12 (by decide) ?_
  refine lv_icmp_le (tgt := 20) hx hb dX12_feed_15 (by decide) (fun q4 => ?_) (fun q4 => ?_)
  · have hf := ifp hf q4
    refine lv_iconst (v := 0) hx hb dX12_feed_20 (by decide) ?_
    refine lv_topi (fun x6_5 e1 => ?_)
    have hf := lt1_n e1 hf
    refine lv_istore (lv' := [(6, .int x6_5), (0, .ref x0), (1, .int x1), (2, .int x2), (3, .int x3), (4, .int x4), (5, .int x5)]) hx hb dX12_feed_21 hl (by decide) rfl (fun ls hl => ?_)
    obtain ⟨ex23, hl23, hk23⟩ := bs hf
    refine loop_W (P := fun st => ∀ (H : Heap) (locs : List Loc) (ls : Array Slot), wS E s st.2 H locs → lv_has ls 8 [(0, .ref x0), (1, .int x1), (2, .int x2), (3, .int x3), (4, .int x4), (5, .int x5), (6, .int st.1)] → W p l e R s m args below meth c H locs 0 0 Q (F0 m 23 ls [])) (ex := ex23) ?_ FU _ hl23 H locs ls hS (lv_sub hl [1, 2, 3, 4, 5, 6, 0] rfl)
    intro st y23 hf hyL23 hyR23 H locs ls hS hl
    obtain ⟨x6, mm⟩ := st
    have hf : fX12_feed_b23 (eS E) x0 x1 x2 x3 x4 x5 x6 mm = some y23 := hf
    have hS : wS E s mm H locs := hS
    have hl : lv_has ls 8 [(0, .ref x0), (1, .int x1), (2, .int x2), (3, .int x3), (4, .int x4), (5, .int x5), (6, .int x6)] := hl
    unfold fX12_feed_b23 at hf
    have hj76 : ∀ (x6 : Int32) (s0 : Int32) (mm : Mem) (H : Heap) (locs : List Loc) (ls : Array Slot), fX12_feed_j76 (eS E) x0 x1 x2 x3 x4 x5 x6 s0 mm = some y23 → wS E s mm H locs → lv_has ls 8 [(0, .ref x0), (1, .int x1), (2, .int x2), (3, .int x3), (4, .int x4), (5, .int x5), (6, .int x6)] → W p l e R s m args below meth c H locs 0 0 Q (F0 m 76 ls [.int s0]) := by
      intro x6 s0 mm H locs ls hf hS hl
      unfold fX12_feed_j76 at hf
      refine lv_topi (fun x7_6 e1 => ?_)
      have hf := lt1_n e1 hf
      refine lv_istore (lv' := [(7, .int x7_6), (0, .ref x0), (1, .int x1), (2, .int x2), (3, .int x3), (4, .int x4), (5, .int x5), (6, .int x6)]) hx hb dX12_feed_76 hl (by decide) rfl (fun ls hl => ?_)
      refine lv_aload_n hx hb dX12_feed_78 rfl (lv_at hl 1 rfl) ?_
      obtain ⟨a7, h1, hf⟩ := bs hf
      refine am_gr X hS fl_X12_20 rfl h1 dX12_feed_79 ?_
      refine lv_aload_n hx hb dX12_feed_82 rfl (lv_at hl 1 rfl) ?_
      obtain ⟨v8, h1, hf⟩ := bs hf
      refine am_gi X hS fl_X12_95 rfl h1 dX12_feed_83 ?_
      refine lv_iload hx hb dX12_feed_86 (lv_at hl 0 rfl) ?_
      refine lv_bipush (v := 24) hx hb dX12_feed_88 (by decide) ?_
      refine lv_bipush (v := 8) hx hb dX12_feed_90 (by decide) ?_
      refine lv_iload hx hb dX12_feed_92 (lv_at hl 7 rfl) ?_
      refine lv_iconst (v := 4) hx hb dX12_feed_94 (by decide) ?_
      obtain ⟨v9, h1, hf⟩ := bs hf
      obtain ⟨h1, h2⟩ := rmI_n h1
      refine lv_irem hx hb dX12_feed_95 h1 ?_
      rw [h2]
      refine lv_imul hx hb dX12_feed_96 ?_
      refine lv_isub hx hb dX12_feed_97 ?_
      refine lv_ishr hx hb dX12_feed_98 ?_
      refine lv_sipush (v := 255) hx hb dX12_feed_99 (by decide) ?_
      refine lv_iand hx hb dX12_feed_102 ?_
      obtain ⟨m10, h1, hf⟩ := bs hf
      refine am_ast X hS h1 dX12_feed_103 (fun H locs hS => ?_)
      refine lv_aload_n hx hb dX12_feed_104 rfl (lv_at hl 1 rfl) ?_
      refine lv_dup hx hb dX12_feed_105 rfl ?_
      obtain ⟨v11, h1, hf⟩ := bs hf
      refine am_gi X hS fl_X12_95 rfl h1 dX12_feed_106 ?_
      refine lv_iconst (v := 1) hx hb dX12_feed_109 (by decide) ?_
      refine lv_iadd hx hb dX12_feed_110 ?_
      obtain ⟨m12, h1, hf⟩ := bs hf
      refine am_pi X hS fp_X12_95 rfl h1 dX12_feed_111 (fun H locs hS => ?_)
      obtain ⟨x6_13, e1⟩ : ∃ z : Int32, z = x6 + 1 := ⟨_, rfl⟩
      have hf := lt1_n e1 hf
      refine lv_iinc (v := x6_13) (lv' := [(6, .int x6_13), (7, .int x7_6), (0, .ref x0), (1, .int x1), (2, .int x2), (3, .int x3), (4, .int x4), (5, .int x5)]) hx hb dX12_feed_114 hl (k := 7) rfl (by rw [e1]; rfl) (by decide) rfl (fun ls hl => ?_)
      refine lv_goto (tgt := 23) hx hb dX12_feed_117 (by decide) ?_
      exact hyL23 _ (Option.some.inj hf).symm H locs ls hS (lv_sub hl [2, 3, 4, 5, 6, 7, 0] rfl)
    refine lv_iload hx hb dX12_feed_23 (lv_at hl 6 rfl) ?_
    refine lv_bipush (v := 20) hx hb dX12_feed_25 (by decide) ?_
    refine lv_icmp_ge (tgt := 120) hx hb dX12_feed_27 (by decide) (fun q14 => ?_) (fun q14 => ?_)
    · have hf := ifp hf q14
      obtain rfl : mm = ex23 := hyR23 _ (Option.some.inj hf).symm
      exact hj120 x0 mm H locs ls hk23 hS (lv_sub hl [0] rfl)
    · have hf := ifn hf q14
      refine lv_iload hx hb dX12_feed_30 (lv_at hl 6 rfl) ?_
      refine lv_iconst (v := 4) hx hb dX12_feed_32 (by decide) ?_
      refine lv_icmp_ge (tgt := 40) hx hb dX12_feed_33 (by decide) (fun q15 => ?_) (fun q15 => ?_)
      · have hf := ifp hf q15
        refine lv_iload hx hb dX12_feed_40 (lv_at hl 6 rfl) ?_
        refine lv_bipush (v := 8) hx hb dX12_feed_42 (by decide) ?_
        refine lv_icmp_ge (tgt := 51) hx hb dX12_feed_44 (by decide) (fun q16 => ?_) (fun q16 => ?_)
        · have hf := ifp hf q16
          refine lv_iload hx hb dX12_feed_51 (lv_at hl 6 rfl) ?_
          refine lv_bipush (v := 12) hx hb dX12_feed_53 (by decide) ?_
          refine lv_icmp_ge (tgt := 62) hx hb dX12_feed_55 (by decide) (fun q17 => ?_) (fun q17 => ?_)
          · have hf := ifp hf q17
            refine lv_iload hx hb dX12_feed_62 (lv_at hl 6 rfl) ?_
            refine lv_bipush (v := 16) hx hb dX12_feed_64 (by decide) ?_
            refine lv_icmp_ge (tgt := 74) hx hb dX12_feed_66 (by decide) (fun q18 => ?_) (fun q18 => ?_)
            · have hf := ifp hf q18
              refine lv_iload hx hb dX12_feed_74 (lv_at hl 5 rfl) ?_
              exact hj76 x6 x5 mm H locs ls hf hS hl
            · have hf := ifn hf q18
              refine lv_iload hx hb dX12_feed_69 (lv_at hl 4 rfl) ?_
              refine lv_goto (tgt := 76) hx hb dX12_feed_71 (by decide) ?_
              exact hj76 x6 x4 mm H locs ls hf hS hl
          · have hf := ifn hf q17
            refine lv_iload_n hx hb dX12_feed_58 rfl (lv_at hl 3 rfl) ?_
            refine lv_goto (tgt := 76) hx hb dX12_feed_59 (by decide) ?_
            exact hj76 x6 x3 mm H locs ls hf hS hl
        · have hf := ifn hf q16
          refine lv_iload_n hx hb dX12_feed_47 rfl (lv_at hl 2 rfl) ?_
          refine lv_goto (tgt := 76) hx hb dX12_feed_48 (by decide) ?_
          exact hj76 x6 x2 mm H locs ls hf hS hl
      · have hf := ifn hf q15
        refine lv_iload_n hx hb dX12_feed_36 rfl (lv_at hl 1 rfl) ?_
        refine lv_goto (tgt := 76) hx hb dX12_feed_37 (by decide) ?_
        exact hj76 x6 x1 mm H locs ls hf hS hl
  · have hf := ifn hf q4
    refine lv_iconst (v := (-1)) hx hb dX12_feed_18 (by decide) ?_
    cases hf
    exact hret _ _ _ _ rfl dX12_feed_19 hS
set_option maxRecDepth 100000 in
theorem cX12_feed_ok {l : Launch} {E : Ev} {x0 : Nat} {x1 : Int32} {x2 : Int32} {x3 : Int32} {x4 : Int32} {x5 : Int32} {mm : Mem} {r : Int32} {mm1 : Mem} (hf : fX12_feed (eS E) x0 x1 x2 x3 x4 x5 mm = some (r, mm1)) : CtI l yX12_feed cX12_feed 8 (some .int) (0) (0) E [.ref x0, .int x1, .int x2, .int x3, .int x4, .int x5] mm r mm1 := by
  refine Met.ofW (cc := cX12_feed) (maxL := 8) (ret := (some .int)) (by decide) rfl ?_
  intro p e s m args below meth c s₁ B hml hv
  obtain ⟨rfl, X, hS, hr, hlocks⟩ := am_in B hv
  refine am_entry (Nat.le_of_ble_eq_true rfl) (fun ls hl => ?_)
  exact wX12_feed X hml ⟨Nat.le_refl _, Nat.le_refl _⟩ hf (fun pc H locs ls hn hd hS => am_ri X hS hr hn hd hlocks) _ _ ls hS hl
set_option maxHeartbeats 4000000 in
set_option maxRecDepth 100000 in
theorem wX12_fine {p : Program} {l : Launch} {e : Env} {R : Room} {s : State} {m : MethodId} {args : Array Value} {below : List Frame} {meth : Method} {c : Code} {Q : State → Prop} {E : Ev} (X : Cx p s m args c cX12_fine RX12 E) (hml : c.maxLocals = 1) (hR : 0 ≤ R.frames ∧ 0 ≤ R.locals) {x0 : Nat} {mm : Mem} {r : Int32} (hf : fX12_fine (eS E) x0 mm = some r) (hret : ∀ (pc : Nat) (H : Heap) (locs : List Loc) (ls : Array Slot), narrow .boolean (.int r) = .int r → decode cX12_fine pc = .ok (.ireturn, 1) → wS E s mm H locs → W p l e R s m args below meth c H locs 0 0 Q (F0 m pc ls [.int r])) : ∀ (H : Heap) (locs : List Loc) (ls : Array Slot), wS E s mm H locs → lv_has ls 1 [(0, .ref x0)] → W p l e R s m args below meth c H locs 0 0 Q (F0 m 0 ls []) := by
  have hx := X.1
  have hb := X.2.1
  have hR1 := hR.1
  have hR2 := hR.2
  have hRa : 0 ≤ R.frames := by omega
  have hRb : 0 ≤ R.locals := by omega
  unfold fX12_fine at hf
  have hj13 : ∀ (s0 : Int32) (H : Heap) (locs : List Loc) (ls : Array Slot), fX12_fine_j13 (eS E) s0 mm = some r → wS E s mm H locs → lv_has ls 1 [] → W p l e R s m args below meth c H locs 0 0 Q (F0 m 13 ls [.int s0]) := by
    intro s0 H locs ls hf hS hl
    unfold fX12_fine_j13 at hf
    obtain ⟨v1, h1, hf⟩ := bs hf
    obtain ⟨rfl, h2⟩ := ckZ_n h1
    cases hf
    exact hret _ _ _ _ h2 dX12_fine_13 hS
  intro H locs ls hS hl
  refine lv_aload_n hx hb dX12_fine_0 rfl (lv_at hl 0 rfl) ?_
  obtain ⟨v2, h1, hf⟩ := bs hf
  refine am_gi X hS fl_X12_98 rfl h1 dX12_fine_1 ?_
  refine lv_iconst (v := (-1)) hx hb dX12_fine_4 (by decide) ?_
  refine lv_icmp_ne (tgt := 12) hx hb dX12_fine_5 (by decide) (fun q3 => ?_) (fun q3 => ?_)
  · have hf := ifn hf q3
    refine lv_iconst (v := 0) hx hb dX12_fine_12 (by decide) ?_
    exact hj13 0 H locs ls hf hS (lv_sub hl [] rfl)
  · have hf := ifp hf q3
    refine lv_iconst (v := 1) hx hb dX12_fine_8 (by decide) ?_
    refine lv_goto (tgt := 13) hx hb dX12_fine_9 (by decide) ?_
    exact hj13 1 H locs ls hf hS (lv_sub hl [] rfl)
set_option maxRecDepth 100000 in
theorem cX12_fine_ok {l : Launch} {E : Ev} {x0 : Nat} {mm : Mem} {r : Int32} (hf : fX12_fine (eS E) x0 mm = some r) : CtI l yX12_fine cX12_fine 1 (some .boolean) (0) (0) E [.ref x0] mm r mm := by
  refine Met.ofW (cc := cX12_fine) (maxL := 1) (ret := (some .boolean)) (by decide) rfl ?_
  intro p e s m args below meth c s₁ B hml hv
  obtain ⟨rfl, X, hS, hr, hlocks⟩ := am_in B hv
  refine am_entry (Nat.le_of_ble_eq_true rfl) (fun ls hl => ?_)
  exact wX12_fine X hml ⟨Nat.le_refl _, Nat.le_refl _⟩ hf (fun pc H locs ls hn hd hS => am_ri X hS hr hn hd hlocks) _ _ ls hS hl
set_option maxHeartbeats 4000000 in
set_option maxRecDepth 100000 in
theorem wX12_wrong {p : Program} {l : Launch} {e : Env} {R : Room} {s : State} {m : MethodId} {args : Array Value} {below : List Frame} {meth : Method} {c : Code} {Q : State → Prop} {E : Ev} (X : Cx p s m args c cX12_wrong RX12 E) (hml : c.maxLocals = 3) (hR : 0 ≤ R.frames ∧ 0 ≤ R.locals) {x0 : Nat} {x1 : Int32} {x2 : Int32} {mm : Mem} {mm1 : Mem} (hf : fX12_wrong (eS E) x0 x1 x2 mm = some mm1) (hret : ∀ (pc : Nat) (H : Heap) (locs : List Loc) (ls : Array Slot), decode cX12_wrong pc = .ok (.return_, 1) → wS E s mm1 H locs → W p l e R s m args below meth c H locs 0 0 Q (F0 m pc ls [])) : ∀ (H : Heap) (locs : List Loc) (ls : Array Slot), wS E s mm H locs → lv_has ls 3 [(0, .ref x0), (1, .int x1), (2, .int x2)] → W p l e R s m args below meth c H locs 0 0 Q (F0 m 0 ls []) := by
  have hx := X.1
  have hb := X.2.1
  have hR1 := hR.1
  have hR2 := hR.2
  have hRa : 0 ≤ R.frames := by omega
  have hRb : 0 ≤ R.locals := by omega
  unfold fX12_wrong at hf
  intro H locs ls hS hl
  refine lv_aload_n hx hb dX12_wrong_0 rfl (lv_at hl 0 rfl) ?_
  obtain ⟨v1, h1, hf⟩ := bs hf
  refine am_gi X hS fl_X12_98 rfl h1 dX12_wrong_1 ?_
  refine lv_iconst (v := (-1)) hx hb dX12_wrong_4 (by decide) ?_
  refine lv_icmp_eq (tgt := 9) hx hb dX12_wrong_5 (by decide) (fun q2 => ?_) (fun q2 => ?_)
  · have hf := ifp hf q2
    refine lv_aload_n hx hb dX12_wrong_9 rfl (lv_at hl 0 rfl) ?_
    refine lv_iload_n hx hb dX12_wrong_10 rfl (lv_at hl 2 rfl) ?_
    obtain ⟨m3, h1, hf⟩ := bs hf
    refine am_pi X hS fp_X12_98 rfl h1 dX12_wrong_11 (fun H locs hS => ?_)
    refine lv_aload_n hx hb dX12_wrong_14 rfl (lv_at hl 0 rfl) ?_
    refine lv_iload_n hx hb dX12_wrong_15 rfl (lv_at hl 1 rfl) ?_
    obtain ⟨m4, h1, hf⟩ := bs hf
    refine am_pi X hS fp_X12_101 rfl h1 dX12_wrong_16 (fun H locs hS => ?_)
    cases hf
    exact hret _ _ _ _ dX12_wrong_19 hS
  · have hf := ifn hf q2
    cases hf
    exact hret _ _ _ _ dX12_wrong_8 hS
set_option maxRecDepth 100000 in
theorem cX12_wrong_ok {l : Launch} {E : Ev} {x0 : Nat} {x1 : Int32} {x2 : Int32} {mm : Mem} {mm1 : Mem} (hf : fX12_wrong (eS E) x0 x1 x2 mm = some mm1) : CtV l yX12_wrong cX12_wrong 3 none (0) (0) E [.ref x0, .int x1, .int x2] mm mm1 := by
  refine Met.ofW (cc := cX12_wrong) (maxL := 3) (ret := none) (by decide) rfl ?_
  intro p e s m args below meth c s₁ B hml hv
  obtain ⟨rfl, X, hS, hr, hlocks⟩ := am_in B hv
  refine am_entry (Nat.le_of_ble_eq_true rfl) (fun ls hl => ?_)
  exact wX12_wrong X hml ⟨Nat.le_refl _, Nat.le_refl _⟩ hf (fun pc H locs ls hd hS => am_rv X hS hr hd hlocks) _ _ ls hS hl
set_option maxHeartbeats 4000000 in
set_option maxRecDepth 100000 in
theorem wX12_here {p : Program} {l : Launch} {e : Env} {R : Room} {s : State} {m : MethodId} {args : Array Value} {below : List Frame} {meth : Method} {c : Code} {Q : State → Prop} {E : Ev} (X : Cx p s m args c cX12_here RX12 E) (hml : c.maxLocals = 1) (hR : 0 ≤ R.frames ∧ 0 ≤ R.locals) {x0 : Nat} {mm : Mem} {r : Int32} {mm1 : Mem} (hf : fX12_here (eS E) x0 mm = some (r, mm1)) (hret : ∀ (pc : Nat) (H : Heap) (locs : List Loc) (ls : Array Slot), narrow .int (.int r) = .int r → decode cX12_here pc = .ok (.ireturn, 1) → wS E s mm1 H locs → W p l e R s m args below meth c H locs 0 0 Q (F0 m pc ls [.int r])) : ∀ (H : Heap) (locs : List Loc) (ls : Array Slot), wS E s mm H locs → lv_has ls 1 [(0, .ref x0)] → W p l e R s m args below meth c H locs 0 0 Q (F0 m 0 ls []) := by
  have hx := X.1
  have hb := X.2.1
  have hR1 := hR.1
  have hR2 := hR.2
  have hRa : 0 ≤ R.frames := by omega
  have hRb : 0 ≤ R.locals := by omega
  unfold fX12_here at hf
  have hj62 : ∀ (s0 : Int32) (mm : Mem) (H : Heap) (locs : List Loc) (ls : Array Slot), fX12_here_j62 (eS E) s0 mm = some (r, mm1) → wS E s mm H locs → lv_has ls 1 [] → W p l e R s m args below meth c H locs 0 0 Q (F0 m 62 ls [.int s0]) := by
    intro s0 mm H locs ls hf hS hl
    unfold fX12_here_j62 at hf
    cases hf
    exact hret _ _ _ _ rfl dX12_here_62 hS
  have hj38 : ∀ (x0 : Nat) (mm : Mem) (H : Heap) (locs : List Loc) (ls : Array Slot), fX12_here_j38 (eS E) x0 mm = some (r, mm1) → wS E s mm H locs → lv_has ls 1 [(0, .ref x0)] → W p l e R s m args below meth c H locs 0 0 Q (F0 m 38 ls []) := by
    intro x0 mm H locs ls hf hS hl
    unfold fX12_here_j38 at hf
    refine lv_aload_n hx hb dX12_here_38 rfl (lv_at hl 0 rfl) ?_
    obtain ⟨v1, h1, hf⟩ := bs hf
    refine am_gi X hS fl_X12_104 rfl h1 dX12_here_39 ?_
    refine lv_aload_n hx hb dX12_here_42 rfl (lv_at hl 0 rfl) ?_
    obtain ⟨v2, h1, hf⟩ := bs hf
    refine am_gi X hS fl_X12_107 rfl h1 dX12_here_43 ?_
    refine lv_icmp_ge (tgt := 61) hx hb dX12_here_46 (by decide) (fun q3 => ?_) (fun q3 => ?_)
    · have hf := ifp hf q3
      refine lv_iconst (v := 0) hx hb dX12_here_61 (by decide) ?_
      exact hj62 0 mm H locs ls hf hS (lv_sub hl [] rfl)
    · have hf := ifn hf q3
      refine lv_aload_n hx hb dX12_here_49 rfl (lv_at hl 0 rfl) ?_
      obtain ⟨a4, h1, hf⟩ := bs hf
      refine am_gr X hS fl_X12_20 rfl h1 dX12_here_50 ?_
      refine lv_aload_n hx hb dX12_here_53 rfl (lv_at hl 0 rfl) ?_
      obtain ⟨v5, h1, hf⟩ := bs hf
      refine am_gi X hS fl_X12_104 rfl h1 dX12_here_54 ?_
      obtain ⟨v6, h1, hf⟩ := bs hf
      refine am_ald X hS h1 dX12_here_57 ?_
      refine lv_goto (tgt := 62) hx hb dX12_here_58 (by decide) ?_
      exact hj62 v6 mm H locs ls hf hS (lv_sub hl [] rfl)
  intro H locs ls hS hl
  obtain ⟨ex0, hl0, hk0⟩ := bs hf
  refine loop_W (P := fun st => ∀ (H : Heap) (locs : List Loc) (ls : Array Slot), wS E s st H locs → lv_has ls 1 [(0, .ref x0)] → W p l e R s m args below meth c H locs 0 0 Q (F0 m 0 ls [])) (ex := ex0) ?_ FU _ hl0 H locs ls hS hl
  intro st y0 hf hyL0 hyR0 H locs ls hS hl
  obtain ⟨mm, rfl⟩ : ∃ z, z = st := ⟨_, rfl⟩
  have hf : fX12_here_b0 (eS E) x0 mm = some y0 := hf
  have hS : wS E s mm H locs := hS
  have hl : lv_has ls 1 [(0, .ref x0)] := hl
  unfold fX12_here_b0 at hf
  refine lv_aload_n hx hb dX12_here_0 rfl (lv_at hl 0 rfl) ?_
  obtain ⟨v7, h1, hf⟩ := bs hf
  refine am_gi X hS fl_X12_104 rfl h1 dX12_here_1 ?_
  refine lv_aload_n hx hb dX12_here_4 rfl (lv_at hl 0 rfl) ?_
  obtain ⟨v8, h1, hf⟩ := bs hf
  refine am_gi X hS fl_X12_107 rfl h1 dX12_here_5 ?_
  refine lv_icmp_ge (tgt := 38) hx hb dX12_here_8 (by decide) (fun q9 => ?_) (fun q9 => ?_)
  · have hf := ifp hf q9
    obtain rfl : mm = ex0 := hyR0 _ (Option.some.inj hf).symm
    exact hj38 x0 mm H locs ls hk0 hS hl
  · have hf := ifn hf q9
    refine lv_aload_n hx hb dX12_here_11 rfl (lv_at hl 0 rfl) ?_
    obtain ⟨a10, h1, hf⟩ := bs hf
    refine am_gr X hS fl_X12_20 rfl h1 dX12_here_12 ?_
    refine lv_aload_n hx hb dX12_here_15 rfl (lv_at hl 0 rfl) ?_
    obtain ⟨v11, h1, hf⟩ := bs hf
    refine am_gi X hS fl_X12_104 rfl h1 dX12_here_16 ?_
    obtain ⟨v12, h1, hf⟩ := bs hf
    refine am_ald X hS h1 dX12_here_19 ?_
    refine lv_bipush (v := 32) hx hb dX12_here_20 (by decide) ?_
    refine lv_icmp_ne (tgt := 38) hx hb dX12_here_22 (by decide) (fun q13 => ?_) (fun q13 => ?_)
    · have hf := ifn hf q13
      obtain rfl : mm = ex0 := hyR0 _ (Option.some.inj hf).symm
      exact hj38 x0 mm H locs ls hk0 hS hl
    · have hf := ifp hf q13
      refine lv_aload_n hx hb dX12_here_25 rfl (lv_at hl 0 rfl) ?_
      refine lv_dup hx hb dX12_here_26 rfl ?_
      obtain ⟨v14, h1, hf⟩ := bs hf
      refine am_gi X hS fl_X12_104 rfl h1 dX12_here_27 ?_
      refine lv_iconst (v := 1) hx hb dX12_here_30 (by decide) ?_
      refine lv_iadd hx hb dX12_here_31 ?_
      obtain ⟨m15, h1, hf⟩ := bs hf
      refine am_pi X hS fp_X12_104 rfl h1 dX12_here_32 (fun H locs hS => ?_)
      refine lv_goto (tgt := 0) hx hb dX12_here_35 (by decide) ?_
      exact hyL0 _ (Option.some.inj hf).symm H locs ls hS hl
set_option maxRecDepth 100000 in
theorem cX12_here_ok {l : Launch} {E : Ev} {x0 : Nat} {mm : Mem} {r : Int32} {mm1 : Mem} (hf : fX12_here (eS E) x0 mm = some (r, mm1)) : CtI l yX12_here cX12_here 1 (some .int) (0) (0) E [.ref x0] mm r mm1 := by
  refine Met.ofW (cc := cX12_here) (maxL := 1) (ret := (some .int)) (by decide) rfl ?_
  intro p e s m args below meth c s₁ B hml hv
  obtain ⟨rfl, X, hS, hr, hlocks⟩ := am_in B hv
  refine am_entry (Nat.le_of_ble_eq_true rfl) (fun ls hl => ?_)
  exact wX12_here X hml ⟨Nat.le_refl _, Nat.le_refl _⟩ hf (fun pc H locs ls hn hd hS => am_ri X hS hr hn hd hlocks) _ _ ls hS hl
set_option maxHeartbeats 4000000 in
set_option maxRecDepth 100000 in
theorem wX12_isSmall {p : Program} {l : Launch} {e : Env} {R : Room} {s : State} {m : MethodId} {args : Array Value} {below : List Frame} {meth : Method} {c : Code} {Q : State → Prop} {E : Ev} (X : Cx p s m args c cX12_isSmall RX12 E) (hml : c.maxLocals = 1) (hR : 0 ≤ R.frames ∧ 0 ≤ R.locals) {x0 : Int32} {mm : Mem} {r : Int32} (hf : fX12_isSmall x0 = some r) (hret : ∀ (pc : Nat) (H : Heap) (locs : List Loc) (ls : Array Slot), narrow .boolean (.int r) = .int r → decode cX12_isSmall pc = .ok (.ireturn, 1) → wS E s mm H locs → W p l e R s m args below meth c H locs 0 0 Q (F0 m pc ls [.int r])) : ∀ (H : Heap) (locs : List Loc) (ls : Array Slot), wS E s mm H locs → lv_has ls 1 [(0, .int x0)] → W p l e R s m args below meth c H locs 0 0 Q (F0 m 0 ls []) := by
  have hx := X.1
  have hb := X.2.1
  have hR1 := hR.1
  have hR2 := hR.2
  have hRa : 0 ≤ R.frames := by omega
  have hRb : 0 ≤ R.locals := by omega
  unfold fX12_isSmall at hf
  have hj17 : ∀ (s0 : Int32) (H : Heap) (locs : List Loc) (ls : Array Slot), fX12_isSmall_j17 s0 = some r → wS E s mm H locs → lv_has ls 1 [] → W p l e R s m args below meth c H locs 0 0 Q (F0 m 17 ls [.int s0]) := by
    intro s0 H locs ls hf hS hl
    unfold fX12_isSmall_j17 at hf
    obtain ⟨v1, h1, hf⟩ := bs hf
    obtain ⟨rfl, h2⟩ := ckZ_n h1
    cases hf
    exact hret _ _ _ _ h2 dX12_isSmall_17 hS
  have hj16 : ∀ (H : Heap) (locs : List Loc) (ls : Array Slot), fX12_isSmall_j16 = some r → wS E s mm H locs → lv_has ls 1 [] → W p l e R s m args below meth c H locs 0 0 Q (F0 m 16 ls []) := by
    intro H locs ls hf hS hl
    unfold fX12_isSmall_j16 at hf
    refine lv_iconst (v := 0) hx hb dX12_isSmall_16 (by decide) ?_
    exact hj17 0 H locs ls hf hS hl
  intro H locs ls hS hl
  refine lv_iload_n hx hb dX12_isSmall_0 rfl (lv_at hl 0 rfl) ?_
  refine lv_bipush (v := 97) hx hb dX12_isSmall_1 (by decide) ?_
  refine lv_icmp_lt (tgt := 16) hx hb dX12_isSmall_3 (by decide) (fun q2 => ?_) (fun q2 => ?_)
  · have hf := ifp hf q2
    exact hj16  H locs ls hf hS (lv_sub hl [] rfl)
  · have hf := ifn hf q2
    refine lv_iload_n hx hb dX12_isSmall_6 rfl (lv_at hl 0 rfl) ?_
    refine lv_bipush (v := 122) hx hb dX12_isSmall_7 (by decide) ?_
    refine lv_icmp_gt (tgt := 16) hx hb dX12_isSmall_9 (by decide) (fun q3 => ?_) (fun q3 => ?_)
    · have hf := ifp hf q3
      exact hj16  H locs ls hf hS (lv_sub hl [] rfl)
    · have hf := ifn hf q3
      refine lv_iconst (v := 1) hx hb dX12_isSmall_12 (by decide) ?_
      refine lv_goto (tgt := 17) hx hb dX12_isSmall_13 (by decide) ?_
      exact hj17 1 H locs ls hf hS (lv_sub hl [] rfl)
set_option maxRecDepth 100000 in
theorem cX12_isSmall_ok {l : Launch} {E : Ev} {x0 : Int32} {mm : Mem} {r : Int32} (hf : fX12_isSmall x0 = some r) : CtI l yX12_isSmall cX12_isSmall 1 (some .boolean) (0) (0) E [.int x0] mm r mm := by
  refine Met.ofW (cc := cX12_isSmall) (maxL := 1) (ret := (some .boolean)) (by decide) rfl ?_
  intro p e s m args below meth c s₁ B hml hv
  obtain ⟨rfl, X, hS, hr, hlocks⟩ := am_in B hv
  refine am_entry (Nat.le_of_ble_eq_true rfl) (fun ls hl => ?_)
  exact wX12_isSmall X hml ⟨Nat.le_refl _, Nat.le_refl _⟩ hf (fun pc H locs ls hn hd hS => am_ri X hS hr hn hd hlocks) _ _ ls hS hl
set_option maxHeartbeats 4000000 in
set_option maxRecDepth 100000 in
theorem wX12_isDigit {p : Program} {l : Launch} {e : Env} {R : Room} {s : State} {m : MethodId} {args : Array Value} {below : List Frame} {meth : Method} {c : Code} {Q : State → Prop} {E : Ev} (X : Cx p s m args c cX12_isDigit RX12 E) (hml : c.maxLocals = 1) (hR : 0 ≤ R.frames ∧ 0 ≤ R.locals) {x0 : Int32} {mm : Mem} {r : Int32} (hf : fX12_isDigit x0 = some r) (hret : ∀ (pc : Nat) (H : Heap) (locs : List Loc) (ls : Array Slot), narrow .boolean (.int r) = .int r → decode cX12_isDigit pc = .ok (.ireturn, 1) → wS E s mm H locs → W p l e R s m args below meth c H locs 0 0 Q (F0 m pc ls [.int r])) : ∀ (H : Heap) (locs : List Loc) (ls : Array Slot), wS E s mm H locs → lv_has ls 1 [(0, .int x0)] → W p l e R s m args below meth c H locs 0 0 Q (F0 m 0 ls []) := by
  have hx := X.1
  have hb := X.2.1
  have hR1 := hR.1
  have hR2 := hR.2
  have hRa : 0 ≤ R.frames := by omega
  have hRb : 0 ≤ R.locals := by omega
  unfold fX12_isDigit at hf
  have hj17 : ∀ (s0 : Int32) (H : Heap) (locs : List Loc) (ls : Array Slot), fX12_isDigit_j17 s0 = some r → wS E s mm H locs → lv_has ls 1 [] → W p l e R s m args below meth c H locs 0 0 Q (F0 m 17 ls [.int s0]) := by
    intro s0 H locs ls hf hS hl
    unfold fX12_isDigit_j17 at hf
    obtain ⟨v1, h1, hf⟩ := bs hf
    obtain ⟨rfl, h2⟩ := ckZ_n h1
    cases hf
    exact hret _ _ _ _ h2 dX12_isDigit_17 hS
  have hj16 : ∀ (H : Heap) (locs : List Loc) (ls : Array Slot), fX12_isDigit_j16 = some r → wS E s mm H locs → lv_has ls 1 [] → W p l e R s m args below meth c H locs 0 0 Q (F0 m 16 ls []) := by
    intro H locs ls hf hS hl
    unfold fX12_isDigit_j16 at hf
    refine lv_iconst (v := 0) hx hb dX12_isDigit_16 (by decide) ?_
    exact hj17 0 H locs ls hf hS hl
  intro H locs ls hS hl
  refine lv_iload_n hx hb dX12_isDigit_0 rfl (lv_at hl 0 rfl) ?_
  refine lv_bipush (v := 48) hx hb dX12_isDigit_1 (by decide) ?_
  refine lv_icmp_lt (tgt := 16) hx hb dX12_isDigit_3 (by decide) (fun q2 => ?_) (fun q2 => ?_)
  · have hf := ifp hf q2
    exact hj16  H locs ls hf hS (lv_sub hl [] rfl)
  · have hf := ifn hf q2
    refine lv_iload_n hx hb dX12_isDigit_6 rfl (lv_at hl 0 rfl) ?_
    refine lv_bipush (v := 57) hx hb dX12_isDigit_7 (by decide) ?_
    refine lv_icmp_gt (tgt := 16) hx hb dX12_isDigit_9 (by decide) (fun q3 => ?_) (fun q3 => ?_)
    · have hf := ifp hf q3
      exact hj16  H locs ls hf hS (lv_sub hl [] rfl)
    · have hf := ifn hf q3
      refine lv_iconst (v := 1) hx hb dX12_isDigit_12 (by decide) ?_
      refine lv_goto (tgt := 17) hx hb dX12_isDigit_13 (by decide) ?_
      exact hj17 1 H locs ls hf hS (lv_sub hl [] rfl)
set_option maxRecDepth 100000 in
theorem cX12_isDigit_ok {l : Launch} {E : Ev} {x0 : Int32} {mm : Mem} {r : Int32} (hf : fX12_isDigit x0 = some r) : CtI l yX12_isDigit cX12_isDigit 1 (some .boolean) (0) (0) E [.int x0] mm r mm := by
  refine Met.ofW (cc := cX12_isDigit) (maxL := 1) (ret := (some .boolean)) (by decide) rfl ?_
  intro p e s m args below meth c s₁ B hml hv
  obtain ⟨rfl, X, hS, hr, hlocks⟩ := am_in B hv
  refine am_entry (Nat.le_of_ble_eq_true rfl) (fun ls hl => ?_)
  exact wX12_isDigit X hml ⟨Nat.le_refl _, Nat.le_refl _⟩ hf (fun pc H locs ls hn hd hS => am_ri X hS hr hn hd hlocks) _ _ ls hS hl
set_option maxHeartbeats 4000000 in
set_option maxRecDepth 100000 in
theorem wX12_word {p : Program} {l : Launch} {e : Env} {R : Room} {s : State} {m : MethodId} {args : Array Value} {below : List Frame} {meth : Method} {c : Code} {Q : State → Prop} {E : Ev} (X : Cx p s m args c cX12_word RX12 E) (hml : c.maxLocals = 4) (hR : 1 ≤ R.frames ∧ 20 ≤ R.locals) {x0 : Nat} {mm : Mem} {r : Int32} {mm1 : Mem} (hf : fX12_word (eS E) x0 mm = some (r, mm1)) (hret : ∀ (pc : Nat) (H : Heap) (locs : List Loc) (ls : Array Slot), narrow .int (.int r) = .int r → decode cX12_word pc = .ok (.ireturn, 1) → wS E s mm1 H locs → W p l e R s m args below meth c H locs 0 0 Q (F0 m pc ls [.int r])) : ∀ (H : Heap) (locs : List Loc) (ls : Array Slot), wS E s mm H locs → lv_has ls 4 [(0, .ref x0)] → W p l e R s m args below meth c H locs 0 0 Q (F0 m 0 ls []) := by
  have hx := X.1
  have hb := X.2.1
  have hR1 := hR.1
  have hR2 := hR.2
  have hRa : 1 ≤ R.frames := by omega
  have hRb : 20 ≤ R.locals := by omega
  unfold fX12_word at hf
  have hj78 : ∀ (s0 : Int32) (mm : Mem) (H : Heap) (locs : List Loc) (ls : Array Slot), fX12_word_j78 (eS E) s0 mm = some (r, mm1) → wS E s mm H locs → lv_has ls 4 [] → W p l e R s m args below meth c H locs 0 0 Q (F0 m 78 ls [.int s0]) := by
    intro s0 mm H locs ls hf hS hl
    unfold fX12_word_j78 at hf
    cases hf
    exact hret _ _ _ _ rfl dX12_word_78 hS
  have hj67 : ∀ (x1 : Int32) (x2 : Int32) (mm : Mem) (H : Heap) (locs : List Loc) (ls : Array Slot), fX12_word_j67 (eS E) x1 x2 mm = some (r, mm1) → wS E s mm H locs → lv_has ls 4 [(1, .int x1), (2, .int x2)] → W p l e R s m args below meth c H locs 0 0 Q (F0 m 67 ls []) := by
    intro x1 x2 mm H locs ls hf hS hl
    unfold fX12_word_j67 at hf
    refine lv_iload_n hx hb dX12_word_67 rfl (lv_at hl 1 rfl) ?_
    refine lv_bipush (v := 6) hx hb dX12_word_68 (by decide) ?_
    refine lv_icmp_le (tgt := 77) hx hb dX12_word_70 (by decide) (fun q1 => ?_) (fun q1 => ?_)
    · have hf := ifp hf q1
      refine lv_iload_n hx hb dX12_word_77 rfl (lv_at hl 0 rfl) ?_
      exact hj78 x1 mm H locs ls hf hS (lv_sub hl [] rfl)
    · have hf := ifn hf q1
      refine lv_iconst (v := 0) hx hb dX12_word_73 (by decide) ?_
      refine lv_goto (tgt := 78) hx hb dX12_word_74 (by decide) ?_
      exact hj78 0 mm H locs ls hf hS (lv_sub hl [] rfl)
  intro H locs ls hS hl
  refine lv_aload_n hx hb dX12_word_0 rfl (lv_at hl 0 rfl) ?_
  obtain ⟨u0, h0, hf⟩ := bs hf
  obtain ⟨_, hrc⟩ := isO_n h0
  obtain ⟨v2, m3, h1, hf⟩ := bs2 hf
  refine am_endi hS (am_runV (As := []) X (hml.trans hl.1.symm) hS (cX12_here_ok (l := l) (E := E) h1) mv_X12_110 hrc rfl ⟨Nat.le_trans (by decide) hRa, Nat.le_trans (by decide) hRb⟩ ⟨Nat.zero_le _, Nat.zero_le _⟩ rfl rfl (Nat.le_of_ble_eq_true rfl) dX12_word_1) (fun H locs hS => ?_)
  refine lv_pop hx hb dX12_word_4 rfl ?_
  refine lv_iconst (v := 0) hx hb dX12_word_5 (by decide) ?_
  refine lv_topi (fun x1_4 e1 => ?_)
  have hf := lt1_n e1 hf
  refine lv_istore_n (lv' := [(1, .int x1_4), (0, .ref x0)]) hx hb dX12_word_6 rfl hl (by decide) rfl (fun ls hl => ?_)
  refine lv_iconst (v := 0) hx hb dX12_word_7 (by decide) ?_
  refine lv_topi (fun x2_5 e1 => ?_)
  have hf := lt1_n e1 hf
  refine lv_istore_n (lv' := [(2, .int x2_5), (1, .int x1_4), (0, .ref x0)]) hx hb dX12_word_8 rfl hl (by decide) rfl (fun ls hl => ?_)
  refine lv_aload_n hx hb dX12_word_9 rfl (lv_at hl 2 rfl) ?_
  obtain ⟨v6, h1, hf⟩ := bs hf
  refine am_gi X hS fl_X12_104 rfl h1 dX12_word_10 ?_
  refine lv_topi (fun x3_7 e1 => ?_)
  have hf := lt1_n e1 hf
  refine lv_istore_n (lv' := [(3, .int x3_7), (2, .int x2_5), (1, .int x1_4), (0, .ref x0)]) hx hb dX12_word_13 rfl hl (by decide) rfl (fun ls hl => ?_)
  obtain ⟨ex14, hl14, hk14⟩ := bs hf
  refine loop_W (P := fun st => ∀ (H : Heap) (locs : List Loc) (ls : Array Slot), wS E s m3 H locs → lv_has ls 4 [(0, .ref x0), (1, .int st.1), (2, .int st.2.1), (3, .int st.2.2)] → W p l e R s m args below meth c H locs 0 0 Q (F0 m 14 ls [])) (ex := ex14) ?_ FU _ hl14 H locs ls hS (lv_sub hl [3, 2, 1, 0] rfl)
  intro st y14 hf hyL14 hyR14 H locs ls hS hl
  obtain ⟨x1, x2, x3⟩ := st
  obtain ⟨mm, rfl⟩ : ∃ z, z = m3 := ⟨_, rfl⟩
  have hf : fX12_word_b14 (eS E) x0 x1 x2 x3 mm = some y14 := hf
  have hS : wS E s mm H locs := hS
  have hl : lv_has ls 4 [(0, .ref x0), (1, .int x1), (2, .int x2), (3, .int x3)] := hl
  unfold fX12_word_b14 at hf
  have hj57 : ∀ (x2 : Int32) (x3 : Int32) (s0 : Int32) (H : Heap) (locs : List Loc) (ls : Array Slot), fX12_word_j57 (eS E) x0 x2 x3 s0 mm = some y14 → wS E s mm H locs → lv_has ls 4 [(0, .ref x0), (2, .int x2), (3, .int x3)] → W p l e R s m args below meth c H locs 0 0 Q (F0 m 57 ls [.int s0]) := by
    intro x2 x3 s0 H locs ls hf hS hl
    unfold fX12_word_j57 at hf
    refine lv_topi (fun x1_8 e1 => ?_)
    have hf := lt1_n e1 hf
    refine lv_istore_n (lv' := [(1, .int x1_8), (0, .ref x0), (2, .int x2), (3, .int x3)]) hx hb dX12_word_57 rfl hl (by decide) rfl (fun ls hl => ?_)
    obtain ⟨x2_9, e1⟩ : ∃ z : Int32, z = x2 + 1 := ⟨_, rfl⟩
    have hf := lt1_n e1 hf
    refine lv_iinc (v := x2_9) (lv' := [(2, .int x2_9), (1, .int x1_8), (0, .ref x0), (3, .int x3)]) hx hb dX12_word_58 hl (k := 2) rfl (by rw [e1]; rfl) (by decide) rfl (fun ls hl => ?_)
    obtain ⟨x3_10, e1⟩ : ∃ z : Int32, z = x3 + 1 := ⟨_, rfl⟩
    have hf := lt1_n e1 hf
    refine lv_iinc (v := x3_10) (lv' := [(3, .int x3_10), (2, .int x2_9), (1, .int x1_8), (0, .ref x0)]) hx hb dX12_word_61 hl (k := 3) rfl (by rw [e1]; rfl) (by decide) rfl (fun ls hl => ?_)
    refine lv_goto (tgt := 14) hx hb dX12_word_64 (by decide) ?_
    exact hyL14 _ (Option.some.inj hf).symm H locs ls hS (lv_sub hl [3, 2, 1, 0] rfl)
  refine lv_iload_n hx hb dX12_word_14 rfl (lv_at hl 3 rfl) ?_
  refine lv_aload_n hx hb dX12_word_15 rfl (lv_at hl 0 rfl) ?_
  obtain ⟨v11, h1, hf⟩ := bs hf
  refine am_gi X hS fl_X12_107 rfl h1 dX12_word_16 ?_
  refine lv_icmp_ge (tgt := 67) hx hb dX12_word_19 (by decide) (fun q12 => ?_) (fun q12 => ?_)
  · have hf := ifp hf q12
    obtain rfl : (x1, x2) = ex14 := hyR14 _ (Option.some.inj hf).symm
    exact hj67 x1 x2 mm H locs ls hk14 hS (lv_sub hl [1, 2] rfl)
  · have hf := ifn hf q12
    refine lv_aload_n hx hb dX12_word_22 rfl (lv_at hl 0 rfl) ?_
    obtain ⟨a13, h1, hf⟩ := bs hf
    refine am_gr X hS fl_X12_20 rfl h1 dX12_word_23 ?_
    refine lv_iload_n hx hb dX12_word_26 rfl (lv_at hl 3 rfl) ?_
    obtain ⟨v14, h1, hf⟩ := bs hf
    refine am_ald X hS h1 dX12_word_27 ?_
    obtain ⟨v15, h1, hf⟩ := bs hf
    refine am_endi hS (am_runS (As := [.int v14]) X (hml.trans hl.1.symm) hS (cX12_isSmall_ok (l := l) (E := E) h1) ms_X12_114 ⟨Nat.le_trans (by decide) hRa, Nat.le_trans (by decide) hRb⟩ ⟨Nat.zero_le _, Nat.zero_le _⟩ rfl rfl (Nat.le_of_ble_eq_true rfl) dX12_word_28) (fun H locs hS => ?_)
    refine lv_if_eq (tgt := 67) hx hb dX12_word_31 (by decide) (fun q16 => ?_) (fun q16 => ?_)
    · have hf := ifp hf q16
      obtain rfl : (x1, x2) = ex14 := hyR14 _ (Option.some.inj hf).symm
      exact hj67 x1 x2 mm H locs ls hk14 hS (lv_sub hl [1, 2] rfl)
    · have hf := ifn hf q16
      refine lv_iload_n hx hb dX12_word_34 rfl (lv_at hl 2 rfl) ?_
      refine lv_bipush (v := 6) hx hb dX12_word_35 (by decide) ?_
      refine lv_icmp_ge (tgt := 56) hx hb dX12_word_37 (by decide) (fun q17 => ?_) (fun q17 => ?_)
      · have hf := ifp hf q17
        refine lv_iconst (v := 0) hx hb dX12_word_56 (by decide) ?_
        exact hj57 x2 x3 0 H locs ls hf hS (lv_sub hl [0, 2, 3] rfl)
      · have hf := ifn hf q17
        refine lv_iload_n hx hb dX12_word_40 rfl (lv_at hl 1 rfl) ?_
        refine lv_iconst (v := 5) hx hb dX12_word_41 (by decide) ?_
        refine lv_ishl hx hb dX12_word_42 ?_
        refine lv_aload_n hx hb dX12_word_43 rfl (lv_at hl 0 rfl) ?_
        obtain ⟨a18, h1, hf⟩ := bs hf
        refine am_gr X hS fl_X12_20 rfl h1 dX12_word_44 ?_
        refine lv_iload_n hx hb dX12_word_47 rfl (lv_at hl 3 rfl) ?_
        obtain ⟨v19, h1, hf⟩ := bs hf
        refine am_ald X hS h1 dX12_word_48 ?_
        refine lv_bipush (v := 96) hx hb dX12_word_49 (by decide) ?_
        refine lv_isub hx hb dX12_word_51 ?_
        refine lv_ior hx hb dX12_word_52 ?_
        refine lv_goto (tgt := 57) hx hb dX12_word_53 (by decide) ?_
        exact hj57 x2 x3 ((x1 <<< (5 &&& 31)) ||| (v19 - 96)) H locs ls hf hS (lv_sub hl [0, 2, 3] rfl)
set_option maxRecDepth 100000 in
theorem cX12_word_ok {l : Launch} {E : Ev} {x0 : Nat} {mm : Mem} {r : Int32} {mm1 : Mem} (hf : fX12_word (eS E) x0 mm = some (r, mm1)) : CtI l yX12_word cX12_word 4 (some .int) (1) (20) E [.ref x0] mm r mm1 := by
  refine Met.ofW (cc := cX12_word) (maxL := 4) (ret := (some .int)) (by decide) rfl ?_
  intro p e s m args below meth c s₁ B hml hv
  obtain ⟨rfl, X, hS, hr, hlocks⟩ := am_in B hv
  refine am_entry (Nat.le_of_ble_eq_true rfl) (fun ls hl => ?_)
  exact wX12_word X hml ⟨Nat.le_refl _, Nat.le_refl _⟩ hf (fun pc H locs ls hn hd hS => am_ri X hS hr hn hd hlocks) _ _ ls hS hl
set_option maxHeartbeats 4000000 in
set_option maxRecDepth 100000 in
theorem wX12_pass {p : Program} {l : Launch} {e : Env} {R : Room} {s : State} {m : MethodId} {args : Array Value} {below : List Frame} {meth : Method} {c : Code} {Q : State → Prop} {E : Ev} (X : Cx p s m args c cX12_pass RX12 E) (hml : c.maxLocals = 1) (hR : 1 ≤ R.frames ∧ 20 ≤ R.locals) {x0 : Nat} {mm : Mem} {mm1 : Mem} (hf : fX12_pass (eS E) x0 mm = some mm1) (hret : ∀ (pc : Nat) (H : Heap) (locs : List Loc) (ls : Array Slot), decode cX12_pass pc = .ok (.return_, 1) → wS E s mm1 H locs → W p l e R s m args below meth c H locs 0 0 Q (F0 m pc ls [])) : ∀ (H : Heap) (locs : List Loc) (ls : Array Slot), wS E s mm H locs → lv_has ls 1 [(0, .ref x0)] → W p l e R s m args below meth c H locs 0 0 Q (F0 m 0 ls []) := by
  have hx := X.1
  have hb := X.2.1
  have hR1 := hR.1
  have hR2 := hR.2
  have hRa : 1 ≤ R.frames := by omega
  have hRb : 20 ≤ R.locals := by omega
  unfold fX12_pass at hf
  have hj39 : ∀ (mm : Mem) (H : Heap) (locs : List Loc) (ls : Array Slot), fX12_pass_j39 (eS E) mm = some mm1 → wS E s mm H locs → lv_has ls 1 [] → W p l e R s m args below meth c H locs 0 0 Q (F0 m 39 ls []) := by
    intro mm H locs ls hf hS hl
    unfold fX12_pass_j39 at hf
    cases hf
    exact hret _ _ _ _ dX12_pass_39 hS
  intro H locs ls hS hl
  obtain ⟨ex0, hl0, hk0⟩ := bs hf
  refine loop_W (P := fun st => ∀ (H : Heap) (locs : List Loc) (ls : Array Slot), wS E s st H locs → lv_has ls 1 [(0, .ref x0)] → W p l e R s m args below meth c H locs 0 0 Q (F0 m 0 ls [])) (ex := ex0) ?_ FU _ hl0 H locs ls hS hl
  intro st y0 hf hyL0 hyR0 H locs ls hS hl
  obtain ⟨mm, rfl⟩ : ∃ z, z = st := ⟨_, rfl⟩
  have hf : fX12_pass_b0 (eS E) x0 mm = some y0 := hf
  have hS : wS E s mm H locs := hS
  have hl : lv_has ls 1 [(0, .ref x0)] := hl
  unfold fX12_pass_b0 at hf
  refine lv_aload_n hx hb dX12_pass_0 rfl (lv_at hl 0 rfl) ?_
  obtain ⟨v1, h1, hf⟩ := bs hf
  refine am_gi X hS fl_X12_104 rfl h1 dX12_pass_1 ?_
  refine lv_aload_n hx hb dX12_pass_4 rfl (lv_at hl 0 rfl) ?_
  obtain ⟨v2, h1, hf⟩ := bs hf
  refine am_gi X hS fl_X12_107 rfl h1 dX12_pass_5 ?_
  refine lv_icmp_ge (tgt := 39) hx hb dX12_pass_8 (by decide) (fun q3 => ?_) (fun q3 => ?_)
  · have hf := ifp hf q3
    obtain rfl : mm = ex0 := hyR0 _ (Option.some.inj hf).symm
    exact hj39 mm H locs ls hk0 hS (lv_sub hl [] rfl)
  · have hf := ifn hf q3
    refine lv_aload_n hx hb dX12_pass_11 rfl (lv_at hl 0 rfl) ?_
    obtain ⟨a4, h1, hf⟩ := bs hf
    refine am_gr X hS fl_X12_20 rfl h1 dX12_pass_12 ?_
    refine lv_aload_n hx hb dX12_pass_15 rfl (lv_at hl 0 rfl) ?_
    obtain ⟨v5, h1, hf⟩ := bs hf
    refine am_gi X hS fl_X12_104 rfl h1 dX12_pass_16 ?_
    obtain ⟨v6, h1, hf⟩ := bs hf
    refine am_ald X hS h1 dX12_pass_19 ?_
    obtain ⟨v7, h1, hf⟩ := bs hf
    refine am_endi hS (am_runS (As := [.int v6]) X (hml.trans hl.1.symm) hS (cX12_isSmall_ok (l := l) (E := E) h1) ms_X12_114 ⟨Nat.le_trans (by decide) hRa, Nat.le_trans (by decide) hRb⟩ ⟨Nat.zero_le _, Nat.zero_le _⟩ rfl rfl (Nat.le_of_ble_eq_true rfl) dX12_pass_20) (fun H locs hS => ?_)
    refine lv_if_eq (tgt := 39) hx hb dX12_pass_23 (by decide) (fun q8 => ?_) (fun q8 => ?_)
    · have hf := ifp hf q8
      obtain rfl : mm = ex0 := hyR0 _ (Option.some.inj hf).symm
      exact hj39 mm H locs ls hk0 hS (lv_sub hl [] rfl)
    · have hf := ifn hf q8
      refine lv_aload_n hx hb dX12_pass_26 rfl (lv_at hl 0 rfl) ?_
      refine lv_dup hx hb dX12_pass_27 rfl ?_
      obtain ⟨v9, h1, hf⟩ := bs hf
      refine am_gi X hS fl_X12_104 rfl h1 dX12_pass_28 ?_
      refine lv_iconst (v := 1) hx hb dX12_pass_31 (by decide) ?_
      refine lv_iadd hx hb dX12_pass_32 ?_
      obtain ⟨m10, h1, hf⟩ := bs hf
      refine am_pi X hS fp_X12_104 rfl h1 dX12_pass_33 (fun H locs hS => ?_)
      refine lv_goto (tgt := 0) hx hb dX12_pass_36 (by decide) ?_
      exact hyL0 _ (Option.some.inj hf).symm H locs ls hS hl
set_option maxRecDepth 100000 in
theorem cX12_pass_ok {l : Launch} {E : Ev} {x0 : Nat} {mm : Mem} {mm1 : Mem} (hf : fX12_pass (eS E) x0 mm = some mm1) : CtV l yX12_pass cX12_pass 1 none (1) (20) E [.ref x0] mm mm1 := by
  refine Met.ofW (cc := cX12_pass) (maxL := 1) (ret := none) (by decide) rfl ?_
  intro p e s m args below meth c s₁ B hml hv
  obtain ⟨rfl, X, hS, hr, hlocks⟩ := am_in B hv
  refine am_entry (Nat.le_of_ble_eq_true rfl) (fun ls hl => ?_)
  exact wX12_pass X hml ⟨Nat.le_refl _, Nat.le_refl _⟩ hf (fun pc H locs ls hd hS => am_rv X hS hr hd hlocks) _ _ ls hS hl
set_option maxHeartbeats 4000000 in
set_option maxRecDepth 100000 in
theorem wX12_readNumber {p : Program} {l : Launch} {e : Env} {R : Room} {s : State} {m : MethodId} {args : Array Value} {below : List Frame} {meth : Method} {c : Code} {Q : State → Prop} {E : Ev} (X : Cx p s m args c cX12_readNumber RX12 E) (hml : c.maxLocals = 6) (hR : 1 ≤ R.frames ∧ 22 ≤ R.locals) {x0 : Nat} {x1 : Int32} {x2 : Int32} {mm : Mem} {r : Int32} {mm1 : Mem} (hf : fX12_readNumber (eS E) x0 x1 x2 mm = some (r, mm1)) (hret : ∀ (pc : Nat) (H : Heap) (locs : List Loc) (ls : Array Slot), narrow .int (.int r) = .int r → decode cX12_readNumber pc = .ok (.ireturn, 1) → wS E s mm1 H locs → W p l e R s m args below meth c H locs 0 0 Q (F0 m pc ls [.int r])) : ∀ (H : Heap) (locs : List Loc) (ls : Array Slot), wS E s mm H locs → lv_has ls 6 [(0, .ref x0), (1, .int x1), (2, .int x2)] → W p l e R s m args below meth c H locs 0 0 Q (F0 m 0 ls []) := by
  have hx := X.1
  have hb := X.2.1
  have hR1 := hR.1
  have hR2 := hR.2
  have hRa : 1 ≤ R.frames := by omega
  have hRb : 22 ≤ R.locals := by omega
  unfold fX12_readNumber at hf
  have hj126 : ∀ (x0 : Nat) (x4 : Int32) (mm : Mem) (H : Heap) (locs : List Loc) (ls : Array Slot), fX12_readNumber_j126 (eS E) x0 x4 mm = some (r, mm1) → wS E s mm H locs → lv_has ls 6 [(0, .ref x0), (4, .int x4)] → W p l e R s m args below meth c H locs 0 0 Q (F0 m 126 ls []) := by
    intro x0 x4 mm H locs ls hf hS hl
    unfold fX12_readNumber_j126 at hf
    refine lv_aload_n hx hb dX12_readNumber_126 rfl (lv_at hl 0 rfl) ?_
    refine lv_iconst (v := 2) hx hb dX12_readNumber_127 (by decide) ?_
    refine lv_iload hx hb dX12_readNumber_128 (lv_at hl 1 rfl) ?_
    obtain ⟨u0, h0, hf⟩ := bs hf
    obtain ⟨_, hrc⟩ := isO_n h0
    obtain ⟨m1, h1, hf⟩ := bs hf
    refine am_endv hS (am_runV (As := [.int 2, .int x4]) X (hml.trans hl.1.symm) hS (cX12_wrong_ok (l := l) (E := E) h1) mv_X12_134 hrc rfl ⟨Nat.le_trans (by decide) hRa, Nat.le_trans (by decide) hRb⟩ ⟨Nat.zero_le _, Nat.zero_le _⟩ rfl rfl (Nat.le_of_ble_eq_true rfl) dX12_readNumber_130) (fun H locs hS => ?_)
    refine lv_iconst (v := 0) hx hb dX12_readNumber_133 (by decide) ?_
    cases hf
    exact hret _ _ _ _ rfl dX12_readNumber_134 hS
  have hj114 : ∀ (x0 : Nat) (x1 : Int32) (x2 : Int32) (x4 : Int32) (x5 : Int32) (mm : Mem) (H : Heap) (locs : List Loc) (ls : Array Slot), fX12_readNumber_j114 (eS E) x0 x1 x2 x4 x5 mm = some (r, mm1) → wS E s mm H locs → lv_has ls 6 [(0, .ref x0), (1, .int x1), (2, .int x2), (4, .int x4), (5, .int x5)] → W p l e R s m args below meth c H locs 0 0 Q (F0 m 114 ls []) := by
    intro x0 x1 x2 x4 x5 mm H locs ls hf hS hl
    unfold fX12_readNumber_j114 at hf
    refine lv_iload hx hb dX12_readNumber_114 (lv_at hl 4 rfl) ?_
    refine lv_iload_n hx hb dX12_readNumber_116 rfl (lv_at hl 1 rfl) ?_
    refine lv_icmp_lt (tgt := 126) hx hb dX12_readNumber_117 (by decide) (fun q2 => ?_) (fun q2 => ?_)
    · have hf := ifp hf q2
      exact hj126 x0 x4 mm H locs ls hf hS (lv_sub hl [0, 3] rfl)
    · have hf := ifn hf q2
      refine lv_iload hx hb dX12_readNumber_120 (lv_at hl 4 rfl) ?_
      refine lv_iload_n hx hb dX12_readNumber_122 rfl (lv_at hl 2 rfl) ?_
      refine lv_icmp_le (tgt := 135) hx hb dX12_readNumber_123 (by decide) (fun q3 => ?_) (fun q3 => ?_)
      · have hf := ifp hf q3
        refine lv_iload hx hb dX12_readNumber_135 (lv_at hl 4 rfl) ?_
        cases hf
        exact hret _ _ _ _ rfl dX12_readNumber_137 hS
      · have hf := ifn hf q3
        exact hj126 x0 x4 mm H locs ls hf hS (lv_sub hl [0, 3] rfl)
  intro H locs ls hS hl
  refine lv_aload_n hx hb dX12_readNumber_0 rfl (lv_at hl 0 rfl) ?_
  obtain ⟨u0, h0, hf⟩ := bs hf
  obtain ⟨_, hrc⟩ := isO_n h0
  obtain ⟨v4, h1, hf⟩ := bs hf
  refine am_endi hS (am_runV (As := []) X (hml.trans hl.1.symm) hS (cX12_fine_ok (l := l) (E := E) h1) mv_X12_127 hrc rfl ⟨Nat.le_trans (by decide) hRa, Nat.le_trans (by decide) hRb⟩ ⟨Nat.zero_le _, Nat.zero_le _⟩ rfl rfl (Nat.le_of_ble_eq_true rfl) dX12_readNumber_1) (fun H locs hS => ?_)
  refine lv_if_ne (tgt := 9) hx hb dX12_readNumber_4 (by decide) (fun q5 => ?_) (fun q5 => ?_)
  · have hf := ifn hf q5
    refine lv_aload_n hx hb dX12_readNumber_9 rfl (lv_at hl 0 rfl) ?_
    obtain ⟨u0, h0, hf⟩ := bs hf
    obtain ⟨_, hrc⟩ := isO_n h0
    obtain ⟨v6, m7, h1, hf⟩ := bs2 hf
    refine am_endi hS (am_runV (As := []) X (hml.trans hl.1.symm) hS (cX12_here_ok (l := l) (E := E) h1) mv_X12_110 hrc rfl ⟨Nat.le_trans (by decide) hRa, Nat.le_trans (by decide) hRb⟩ ⟨Nat.zero_le _, Nat.zero_le _⟩ rfl rfl (Nat.le_of_ble_eq_true rfl) dX12_readNumber_10) (fun H locs hS => ?_)
    refine lv_topi (fun x3_8 e1 => ?_)
    have hf := lt1_n e1 hf
    refine lv_istore_n (lv' := [(3, .int x3_8), (0, .ref x0), (1, .int x1), (2, .int x2)]) hx hb dX12_readNumber_13 rfl hl (by decide) rfl (fun ls hl => ?_)
    refine lv_aload_n hx hb dX12_readNumber_14 rfl (lv_at hl 1 rfl) ?_
    obtain ⟨v9, h1, hf⟩ := bs hf
    refine am_gi X hS fl_X12_104 rfl h1 dX12_readNumber_15 ?_
    refine lv_topi (fun x4_10 e1 => ?_)
    have hf := lt1_n e1 hf
    refine lv_istore (lv' := [(4, .int x4_10), (3, .int x3_8), (0, .ref x0), (1, .int x1), (2, .int x2)]) hx hb dX12_readNumber_18 hl (by decide) rfl (fun ls hl => ?_)
    refine lv_iconst (v := 0) hx hb dX12_readNumber_20 (by decide) ?_
    refine lv_topi (fun x5_11 e1 => ?_)
    have hf := lt1_n e1 hf
    refine lv_istore (lv' := [(5, .int x5_11), (4, .int x4_10), (3, .int x3_8), (0, .ref x0), (1, .int x1), (2, .int x2)]) hx hb dX12_readNumber_21 hl (by decide) rfl (fun ls hl => ?_)
    refine lv_iload_n hx hb dX12_readNumber_23 rfl (lv_at hl 2 rfl) ?_
    obtain ⟨v12, h1, hf⟩ := bs hf
    refine am_endi hS (am_runS (As := [.int x3_8]) X (hml.trans hl.1.symm) hS (cX12_isDigit_ok (l := l) (E := E) h1) ms_X12_131 ⟨Nat.le_trans (by decide) hRa, Nat.le_trans (by decide) hRb⟩ ⟨Nat.zero_le _, Nat.zero_le _⟩ rfl rfl (Nat.le_of_ble_eq_true rfl) dX12_readNumber_24) (fun H locs hS => ?_)
    refine lv_if_ne (tgt := 41) hx hb dX12_readNumber_27 (by decide) (fun q13 => ?_) (fun q13 => ?_)
    · have hf := ifn hf q13
      obtain ⟨ex41, hl41, hk41⟩ := bs hf
      refine loop_W (P := fun st => ∀ (H : Heap) (locs : List Loc) (ls : Array Slot), wS E s st.2 H locs → lv_has ls 6 [(0, .ref x0), (1, .int x1), (2, .int x2), (4, .int x4_10), (5, .int st.1)] → W p l e R s m args below meth c H locs 0 0 Q (F0 m 41 ls [])) (ex := ex41) ?_ FU _ hl41 H locs ls hS (lv_sub hl [3, 4, 5, 1, 0] rfl)
      intro st y41 hf hyL41 hyR41 H locs ls hS hl
      obtain ⟨x5, mm⟩ := st
      obtain ⟨x4, rfl⟩ : ∃ z, z = x4_10 := ⟨_, rfl⟩
      have hf : fX12_readNumber_b41 (eS E) x0 x1 x2 x4 x5 mm = some y41 := hf
      have hS : wS E s mm H locs := hS
      have hl : lv_has ls 6 [(0, .ref x0), (1, .int x1), (2, .int x2), (4, .int x4), (5, .int x5)] := hl
      unfold fX12_readNumber_b41 at hf
      have hj99 : ∀ (s0 : Int32) (mm : Mem) (H : Heap) (locs : List Loc) (ls : Array Slot), fX12_readNumber_j99 (eS E) x0 x1 x2 x4 s0 mm = some y41 → wS E s mm H locs → lv_has ls 6 [(0, .ref x0), (1, .int x1), (2, .int x2), (4, .int x4)] → W p l e R s m args below meth c H locs 0 0 Q (F0 m 99 ls [.int s0]) := by
        intro s0 mm H locs ls hf hS hl
        unfold fX12_readNumber_j99 at hf
        refine lv_topi (fun x5_14 e1 => ?_)
        have hf := lt1_n e1 hf
        refine lv_istore (lv' := [(5, .int x5_14), (0, .ref x0), (1, .int x1), (2, .int x2), (4, .int x4)]) hx hb dX12_readNumber_99 hl (by decide) rfl (fun ls hl => ?_)
        refine lv_aload_n hx hb dX12_readNumber_101 rfl (lv_at hl 1 rfl) ?_
        refine lv_dup hx hb dX12_readNumber_102 rfl ?_
        obtain ⟨v15, h1, hf⟩ := bs hf
        refine am_gi X hS fl_X12_104 rfl h1 dX12_readNumber_103 ?_
        refine lv_iconst (v := 1) hx hb dX12_readNumber_106 (by decide) ?_
        refine lv_iadd hx hb dX12_readNumber_107 ?_
        obtain ⟨m16, h1, hf⟩ := bs hf
        refine am_pi X hS fp_X12_104 rfl h1 dX12_readNumber_108 (fun H locs hS => ?_)
        refine lv_goto (tgt := 41) hx hb dX12_readNumber_111 (by decide) ?_
        exact hyL41 _ (Option.some.inj hf).symm H locs ls hS (lv_sub hl [1, 2, 3, 4, 0] rfl)
      refine lv_aload_n hx hb dX12_readNumber_41 rfl (lv_at hl 0 rfl) ?_
      obtain ⟨v17, h1, hf⟩ := bs hf
      refine am_gi X hS fl_X12_104 rfl h1 dX12_readNumber_42 ?_
      refine lv_aload_n hx hb dX12_readNumber_45 rfl (lv_at hl 0 rfl) ?_
      obtain ⟨v18, h1, hf⟩ := bs hf
      refine am_gi X hS fl_X12_107 rfl h1 dX12_readNumber_46 ?_
      refine lv_icmp_ge (tgt := 114) hx hb dX12_readNumber_49 (by decide) (fun q19 => ?_) (fun q19 => ?_)
      · have hf := ifp hf q19
        obtain rfl : (x5, mm) = ex41 := hyR41 _ (Option.some.inj hf).symm
        exact hj114 x0 x1 x2 x4 x5 mm H locs ls hk41 hS hl
      · have hf := ifn hf q19
        refine lv_aload_n hx hb dX12_readNumber_52 rfl (lv_at hl 0 rfl) ?_
        obtain ⟨a20, h1, hf⟩ := bs hf
        refine am_gr X hS fl_X12_20 rfl h1 dX12_readNumber_53 ?_
        refine lv_aload_n hx hb dX12_readNumber_56 rfl (lv_at hl 0 rfl) ?_
        obtain ⟨v21, h1, hf⟩ := bs hf
        refine am_gi X hS fl_X12_104 rfl h1 dX12_readNumber_57 ?_
        obtain ⟨v22, h1, hf⟩ := bs hf
        refine am_ald X hS h1 dX12_readNumber_60 ?_
        obtain ⟨v23, h1, hf⟩ := bs hf
        refine am_endi hS (am_runS (As := [.int v22]) X (hml.trans hl.1.symm) hS (cX12_isDigit_ok (l := l) (E := E) h1) ms_X12_131 ⟨Nat.le_trans (by decide) hRa, Nat.le_trans (by decide) hRb⟩ ⟨Nat.zero_le _, Nat.zero_le _⟩ rfl rfl (Nat.le_of_ble_eq_true rfl) dX12_readNumber_61) (fun H locs hS => ?_)
        refine lv_if_eq (tgt := 114) hx hb dX12_readNumber_64 (by decide) (fun q24 => ?_) (fun q24 => ?_)
        · have hf := ifp hf q24
          obtain rfl : (x5, mm) = ex41 := hyR41 _ (Option.some.inj hf).symm
          exact hj114 x0 x1 x2 x4 x5 mm H locs ls hk41 hS hl
        · have hf := ifn hf q24
          refine lv_iload hx hb dX12_readNumber_67 (lv_at hl 4 rfl) ?_
          refine lv_sipush (v := 9999) hx hb dX12_readNumber_69 (by decide) ?_
          refine lv_icmp_le (tgt := 81) hx hb dX12_readNumber_72 (by decide) (fun q25 => ?_) (fun q25 => ?_)
          · have hf := ifp hf q25
            refine lv_bipush (v := 10) hx hb dX12_readNumber_81 (by decide) ?_
            refine lv_iload hx hb dX12_readNumber_83 (lv_at hl 4 rfl) ?_
            refine lv_imul hx hb dX12_readNumber_85 ?_
            refine lv_aload_n hx hb dX12_readNumber_86 rfl (lv_at hl 0 rfl) ?_
            obtain ⟨a26, h1, hf⟩ := bs hf
            refine am_gr X hS fl_X12_20 rfl h1 dX12_readNumber_87 ?_
            refine lv_aload_n hx hb dX12_readNumber_90 rfl (lv_at hl 0 rfl) ?_
            obtain ⟨v27, h1, hf⟩ := bs hf
            refine am_gi X hS fl_X12_104 rfl h1 dX12_readNumber_91 ?_
            obtain ⟨v28, h1, hf⟩ := bs hf
            refine am_ald X hS h1 dX12_readNumber_94 ?_
            refine lv_iadd hx hb dX12_readNumber_95 ?_
            refine lv_bipush (v := 48) hx hb dX12_readNumber_96 (by decide) ?_
            refine lv_isub hx hb dX12_readNumber_98 ?_
            exact hj99 (((10 * x5) + v28) - 48) mm H locs ls hf hS (lv_sub hl [0, 1, 2, 3] rfl)
          · have hf := ifn hf q25
            refine lv_sipush (v := 10000) hx hb dX12_readNumber_75 (by decide) ?_
            refine lv_goto (tgt := 99) hx hb dX12_readNumber_78 (by decide) ?_
            exact hj99 10000 mm H locs ls hf hS (lv_sub hl [0, 1, 2, 3] rfl)
    · have hf := ifp hf q13
      refine lv_aload_n hx hb dX12_readNumber_30 rfl (lv_at hl 3 rfl) ?_
      refine lv_iconst (v := 1) hx hb dX12_readNumber_31 (by decide) ?_
      refine lv_aload_n hx hb dX12_readNumber_32 rfl (lv_at hl 3 rfl) ?_
      obtain ⟨v29, h1, hf⟩ := bs hf
      refine am_gi X hS fl_X12_104 rfl h1 dX12_readNumber_33 ?_
      obtain ⟨u0, h0, hf⟩ := bs hf
      obtain ⟨_, hrc⟩ := isO_n h0
      obtain ⟨m30, h1, hf⟩ := bs hf
      refine am_endv hS (am_runV (As := [.int 1, .int v29]) X (hml.trans hl.1.symm) hS (cX12_wrong_ok (l := l) (E := E) h1) mv_X12_134 hrc rfl ⟨Nat.le_trans (by decide) hRa, Nat.le_trans (by decide) hRb⟩ ⟨Nat.zero_le _, Nat.zero_le _⟩ rfl rfl (Nat.le_of_ble_eq_true rfl) dX12_readNumber_36) (fun H locs hS => ?_)
      refine lv_iconst (v := 0) hx hb dX12_readNumber_39 (by decide) ?_
      cases hf
      exact hret _ _ _ _ rfl dX12_readNumber_40 hS
  · have hf := ifp hf q5
    refine lv_iconst (v := 0) hx hb dX12_readNumber_7 (by decide) ?_
    cases hf
    exact hret _ _ _ _ rfl dX12_readNumber_8 hS
set_option maxRecDepth 100000 in
theorem cX12_readNumber_ok {l : Launch} {E : Ev} {x0 : Nat} {x1 : Int32} {x2 : Int32} {mm : Mem} {r : Int32} {mm1 : Mem} (hf : fX12_readNumber (eS E) x0 x1 x2 mm = some (r, mm1)) : CtI l yX12_readNumber cX12_readNumber 6 (some .int) (1) (22) E [.ref x0, .int x1, .int x2] mm r mm1 := by
  refine Met.ofW (cc := cX12_readNumber) (maxL := 6) (ret := (some .int)) (by decide) rfl ?_
  intro p e s m args below meth c s₁ B hml hv
  obtain ⟨rfl, X, hS, hr, hlocks⟩ := am_in B hv
  refine am_entry (Nat.le_of_ble_eq_true rfl) (fun ls hl => ?_)
  exact wX12_readNumber X hml ⟨Nat.le_refl _, Nat.le_refl _⟩ hf (fun pc H locs ls hn hd hS => am_ri X hS hr hn hd hlocks) _ _ ls hS hl
set_option maxHeartbeats 4000000 in
set_option maxRecDepth 100000 in
theorem wX12_sign {p : Program} {l : Launch} {e : Env} {R : Room} {s : State} {m : MethodId} {args : Array Value} {below : List Frame} {meth : Method} {c : Code} {Q : State → Prop} {E : Ev} (X : Cx p s m args c cX12_sign RX12 E) (hml : c.maxLocals = 2) (hR : 1 ≤ R.frames ∧ 22 ≤ R.locals) {x0 : Nat} {x1 : Int32} {mm : Mem} {mm1 : Mem} (hf : fX12_sign (eS E) x0 x1 mm = some mm1) (hret : ∀ (pc : Nat) (H : Heap) (locs : List Loc) (ls : Array Slot), decode cX12_sign pc = .ok (.return_, 1) → wS E s mm1 H locs → W p l e R s m args below meth c H locs 0 0 Q (F0 m pc ls [])) : ∀ (H : Heap) (locs : List Loc) (ls : Array Slot), wS E s mm H locs → lv_has ls 2 [(0, .ref x0), (1, .int x1)] → W p l e R s m args below meth c H locs 0 0 Q (F0 m 0 ls []) := by
  have hx := X.1
  have hb := X.2.1
  have hR1 := hR.1
  have hR2 := hR.2
  have hRa : 1 ≤ R.frames := by omega
  have hRb : 22 ≤ R.locals := by omega
  unfold fX12_sign at hf
  have hj41 : ∀ (mm : Mem) (H : Heap) (locs : List Loc) (ls : Array Slot), fX12_sign_j41 (eS E) mm = some mm1 → wS E s mm H locs → lv_has ls 2 [] → W p l e R s m args below meth c H locs 0 0 Q (F0 m 41 ls []) := by
    intro mm H locs ls hf hS hl
    unfold fX12_sign_j41 at hf
    cases hf
    exact hret _ _ _ _ dX12_sign_41 hS
  have hj24 : ∀ (x0 : Nat) (mm : Mem) (H : Heap) (locs : List Loc) (ls : Array Slot), fX12_sign_j24 (eS E) x0 mm = some mm1 → wS E s mm H locs → lv_has ls 2 [(0, .ref x0)] → W p l e R s m args below meth c H locs 0 0 Q (F0 m 24 ls []) := by
    intro x0 mm H locs ls hf hS hl
    unfold fX12_sign_j24 at hf
    refine lv_aload_n hx hb dX12_sign_24 rfl (lv_at hl 0 rfl) ?_
    obtain ⟨u0, h0, hf⟩ := bs hf
    obtain ⟨_, hrc⟩ := isO_n h0
    obtain ⟨v1, h1, hf⟩ := bs hf
    refine am_endi hS (am_runV (As := []) X (hml.trans hl.1.symm) hS (cX12_fine_ok (l := l) (E := E) h1) mv_X12_127 hrc rfl ⟨Nat.le_trans (by decide) hRa, Nat.le_trans (by decide) hRb⟩ ⟨Nat.zero_le _, Nat.zero_le _⟩ rfl rfl (Nat.le_of_ble_eq_true rfl) dX12_sign_25) (fun H locs hS => ?_)
    refine lv_if_eq (tgt := 41) hx hb dX12_sign_28 (by decide) (fun q2 => ?_) (fun q2 => ?_)
    · have hf := ifp hf q2
      exact hj41 mm H locs ls hf hS (lv_sub hl [] rfl)
    · have hf := ifn hf q2
      refine lv_aload_n hx hb dX12_sign_31 rfl (lv_at hl 0 rfl) ?_
      refine lv_dup hx hb dX12_sign_32 rfl ?_
      obtain ⟨v3, h1, hf⟩ := bs hf
      refine am_gi X hS fl_X12_104 rfl h1 dX12_sign_33 ?_
      refine lv_iconst (v := 1) hx hb dX12_sign_36 (by decide) ?_
      refine lv_iadd hx hb dX12_sign_37 ?_
      obtain ⟨m4, h1, hf⟩ := bs hf
      refine am_pi X hS fp_X12_104 rfl h1 dX12_sign_38 (fun H locs hS => ?_)
      exact hj41 m4 H locs ls hf hS (lv_sub hl [] rfl)
  intro H locs ls hS hl
  refine lv_aload_n hx hb dX12_sign_0 rfl (lv_at hl 0 rfl) ?_
  obtain ⟨u0, h0, hf⟩ := bs hf
  obtain ⟨_, hrc⟩ := isO_n h0
  obtain ⟨v5, h1, hf⟩ := bs hf
  refine am_endi hS (am_runV (As := []) X (hml.trans hl.1.symm) hS (cX12_fine_ok (l := l) (E := E) h1) mv_X12_127 hrc rfl ⟨Nat.le_trans (by decide) hRa, Nat.le_trans (by decide) hRb⟩ ⟨Nat.zero_le _, Nat.zero_le _⟩ rfl rfl (Nat.le_of_ble_eq_true rfl) dX12_sign_1) (fun H locs hS => ?_)
  refine lv_if_eq (tgt := 24) hx hb dX12_sign_4 (by decide) (fun q6 => ?_) (fun q6 => ?_)
  · have hf := ifp hf q6
    exact hj24 x0 mm H locs ls hf hS (lv_sub hl [0] rfl)
  · have hf := ifn hf q6
    refine lv_aload_n hx hb dX12_sign_7 rfl (lv_at hl 0 rfl) ?_
    obtain ⟨u0, h0, hf⟩ := bs hf
    obtain ⟨_, hrc⟩ := isO_n h0
    obtain ⟨v7, m8, h1, hf⟩ := bs2 hf
    refine am_endi hS (am_runV (As := []) X (hml.trans hl.1.symm) hS (cX12_here_ok (l := l) (E := E) h1) mv_X12_110 hrc rfl ⟨Nat.le_trans (by decide) hRa, Nat.le_trans (by decide) hRb⟩ ⟨Nat.zero_le _, Nat.zero_le _⟩ rfl rfl (Nat.le_of_ble_eq_true rfl) dX12_sign_8) (fun H locs hS => ?_)
    refine lv_iload_n hx hb dX12_sign_11 rfl (lv_at hl 1 rfl) ?_
    refine lv_icmp_eq (tgt := 24) hx hb dX12_sign_12 (by decide) (fun q9 => ?_) (fun q9 => ?_)
    · have hf := ifp hf q9
      exact hj24 x0 m8 H locs ls hf hS (lv_sub hl [0] rfl)
    · have hf := ifn hf q9
      refine lv_aload_n hx hb dX12_sign_15 rfl (lv_at hl 0 rfl) ?_
      refine lv_iconst (v := 1) hx hb dX12_sign_16 (by decide) ?_
      refine lv_aload_n hx hb dX12_sign_17 rfl (lv_at hl 0 rfl) ?_
      obtain ⟨v10, h1, hf⟩ := bs hf
      refine am_gi X hS fl_X12_104 rfl h1 dX12_sign_18 ?_
      obtain ⟨u0, h0, hf⟩ := bs hf
      obtain ⟨_, hrc⟩ := isO_n h0
      obtain ⟨m11, h1, hf⟩ := bs hf
      refine am_endv hS (am_runV (As := [.int 1, .int v10]) X (hml.trans hl.1.symm) hS (cX12_wrong_ok (l := l) (E := E) h1) mv_X12_134 hrc rfl ⟨Nat.le_trans (by decide) hRa, Nat.le_trans (by decide) hRb⟩ ⟨Nat.zero_le _, Nat.zero_le _⟩ rfl rfl (Nat.le_of_ble_eq_true rfl) dX12_sign_21) (fun H locs hS => ?_)
      exact hj24 x0 m11 H locs ls hf hS (lv_sub hl [0] rfl)
set_option maxRecDepth 100000 in
theorem cX12_sign_ok {l : Launch} {E : Ev} {x0 : Nat} {x1 : Int32} {mm : Mem} {mm1 : Mem} (hf : fX12_sign (eS E) x0 x1 mm = some mm1) : CtV l yX12_sign cX12_sign 2 none (1) (22) E [.ref x0, .int x1] mm mm1 := by
  refine Met.ofW (cc := cX12_sign) (maxL := 2) (ret := none) (by decide) rfl ?_
  intro p e s m args below meth c s₁ B hml hv
  obtain ⟨rfl, X, hS, hr, hlocks⟩ := am_in B hv
  refine am_entry (Nat.le_of_ble_eq_true rfl) (fun ls hl => ?_)
  exact wX12_sign X hml ⟨Nat.le_refl _, Nat.le_refl _⟩ hf (fun pc H locs ls hd hS => am_rv X hS hr hd hlocks) _ _ ls hS hl
set_option maxHeartbeats 4000000 in
set_option maxRecDepth 100000 in
theorem wX12_isMore {p : Program} {l : Launch} {e : Env} {R : Room} {s : State} {m : MethodId} {args : Array Value} {below : List Frame} {meth : Method} {c : Code} {Q : State → Prop} {E : Ev} (X : Cx p s m args c cX12_isMore RX12 E) (hml : c.maxLocals = 1) (hR : 1 ≤ R.frames ∧ 20 ≤ R.locals) {x0 : Nat} {mm : Mem} {r : Int32} {mm1 : Mem} (hf : fX12_isMore (eS E) x0 mm = some (r, mm1)) (hret : ∀ (pc : Nat) (H : Heap) (locs : List Loc) (ls : Array Slot), narrow .boolean (.int r) = .int r → decode cX12_isMore pc = .ok (.ireturn, 1) → wS E s mm1 H locs → W p l e R s m args below meth c H locs 0 0 Q (F0 m pc ls [.int r])) : ∀ (H : Heap) (locs : List Loc) (ls : Array Slot), wS E s mm H locs → lv_has ls 1 [(0, .ref x0)] → W p l e R s m args below meth c H locs 0 0 Q (F0 m 0 ls []) := by
  have hx := X.1
  have hb := X.2.1
  have hR1 := hR.1
  have hR2 := hR.2
  have hRa : 1 ≤ R.frames := by omega
  have hRb : 20 ≤ R.locals := by omega
  unfold fX12_isMore at hf
  have hj21 : ∀ (s0 : Int32) (mm : Mem) (H : Heap) (locs : List Loc) (ls : Array Slot), fX12_isMore_j21 (eS E) s0 mm = some (r, mm1) → wS E s mm H locs → lv_has ls 1 [] → W p l e R s m args below meth c H locs 0 0 Q (F0 m 21 ls [.int s0]) := by
    intro s0 mm H locs ls hf hS hl
    unfold fX12_isMore_j21 at hf
    obtain ⟨v1, h1, hf⟩ := bs hf
    obtain ⟨rfl, h2⟩ := ckZ_n h1
    cases hf
    exact hret _ _ _ _ h2 dX12_isMore_21 hS
  intro H locs ls hS hl
  refine lv_aload_n hx hb dX12_isMore_0 rfl (lv_at hl 0 rfl) ?_
  obtain ⟨u0, h0, hf⟩ := bs hf
  obtain ⟨_, hrc⟩ := isO_n h0
  obtain ⟨v2, m3, h1, hf⟩ := bs2 hf
  refine am_endi hS (am_runV (As := []) X (hml.trans hl.1.symm) hS (cX12_here_ok (l := l) (E := E) h1) mv_X12_110 hrc rfl ⟨Nat.le_trans (by decide) hRa, Nat.le_trans (by decide) hRb⟩ ⟨Nat.zero_le _, Nat.zero_le _⟩ rfl rfl (Nat.le_of_ble_eq_true rfl) dX12_isMore_1) (fun H locs hS => ?_)
  refine lv_pop hx hb dX12_isMore_4 rfl ?_
  refine lv_aload_n hx hb dX12_isMore_5 rfl (lv_at hl 0 rfl) ?_
  obtain ⟨v4, h1, hf⟩ := bs hf
  refine am_gi X hS fl_X12_104 rfl h1 dX12_isMore_6 ?_
  refine lv_aload_n hx hb dX12_isMore_9 rfl (lv_at hl 0 rfl) ?_
  obtain ⟨v5, h1, hf⟩ := bs hf
  refine am_gi X hS fl_X12_107 rfl h1 dX12_isMore_10 ?_
  refine lv_icmp_ge (tgt := 20) hx hb dX12_isMore_13 (by decide) (fun q6 => ?_) (fun q6 => ?_)
  · have hf := ifp hf q6
    refine lv_iconst (v := 0) hx hb dX12_isMore_20 (by decide) ?_
    exact hj21 0 m3 H locs ls hf hS (lv_sub hl [] rfl)
  · have hf := ifn hf q6
    refine lv_iconst (v := 1) hx hb dX12_isMore_16 (by decide) ?_
    refine lv_goto (tgt := 21) hx hb dX12_isMore_17 (by decide) ?_
    exact hj21 1 m3 H locs ls hf hS (lv_sub hl [] rfl)
set_option maxRecDepth 100000 in
theorem cX12_isMore_ok {l : Launch} {E : Ev} {x0 : Nat} {mm : Mem} {r : Int32} {mm1 : Mem} (hf : fX12_isMore (eS E) x0 mm = some (r, mm1)) : CtI l yX12_isMore cX12_isMore 1 (some .boolean) (1) (20) E [.ref x0] mm r mm1 := by
  refine Met.ofW (cc := cX12_isMore) (maxL := 1) (ret := (some .boolean)) (by decide) rfl ?_
  intro p e s m args below meth c s₁ B hml hv
  obtain ⟨rfl, X, hS, hr, hlocks⟩ := am_in B hv
  refine am_entry (Nat.le_of_ble_eq_true rfl) (fun ls hl => ?_)
  exact wX12_isMore X hml ⟨Nat.le_refl _, Nat.le_refl _⟩ hf (fun pc H locs ls hn hd hS => am_ri X hS hr hn hd hlocks) _ _ ls hS hl
set_option maxHeartbeats 4000000 in
set_option maxRecDepth 100000 in
theorem wX12_begins {p : Program} {l : Launch} {e : Env} {R : Room} {s : State} {m : MethodId} {args : Array Value} {below : List Frame} {meth : Method} {c : Code} {Q : State → Prop} {E : Ev} (X : Cx p s m args c cX12_begins RX12 E) (hml : c.maxLocals = 2) (hR : 0 ≤ R.frames ∧ 0 ≤ R.locals) {x0 : Nat} {x1 : Int32} {mm : Mem} {mm1 : Mem} (hf : fX12_begins (eS E) x0 x1 mm = some mm1) (hret : ∀ (pc : Nat) (H : Heap) (locs : List Loc) (ls : Array Slot), decode cX12_begins pc = .ok (.return_, 1) → wS E s mm1 H locs → W p l e R s m args below meth c H locs 0 0 Q (F0 m pc ls [])) : ∀ (H : Heap) (locs : List Loc) (ls : Array Slot), wS E s mm H locs → lv_has ls 2 [(0, .ref x0), (1, .int x1)] → W p l e R s m args below meth c H locs 0 0 Q (F0 m 0 ls []) := by
  have hx := X.1
  have hb := X.2.1
  have hR1 := hR.1
  have hR2 := hR.2
  have hRa : 0 ≤ R.frames := by omega
  have hRb : 0 ≤ R.locals := by omega
  unfold fX12_begins at hf
  intro H locs ls hS hl
  refine lv_aload_n hx hb dX12_begins_0 rfl (lv_at hl 0 rfl) ?_
  refine lv_iconst (v := 0) hx hb dX12_begins_1 (by decide) ?_
  obtain ⟨m1, h1, hf⟩ := bs hf
  refine am_pi X hS fp_X12_95 rfl h1 dX12_begins_2 (fun H locs hS => ?_)
  refine lv_aload_n hx hb dX12_begins_5 rfl (lv_at hl 0 rfl) ?_
  refine lv_iconst (v := (-1)) hx hb dX12_begins_6 (by decide) ?_
  obtain ⟨m2, h1, hf⟩ := bs hf
  refine am_pi X hS fp_X12_17 rfl h1 dX12_begins_7 (fun H locs hS => ?_)
  refine lv_aload_n hx hb dX12_begins_10 rfl (lv_at hl 0 rfl) ?_
  refine lv_iload_n hx hb dX12_begins_11 rfl (lv_at hl 1 rfl) ?_
  obtain ⟨m3, h1, hf⟩ := bs hf
  refine am_pi X hS fp_X12_107 rfl h1 dX12_begins_12 (fun H locs hS => ?_)
  refine lv_aload_n hx hb dX12_begins_15 rfl (lv_at hl 0 rfl) ?_
  refine lv_iconst (v := 0) hx hb dX12_begins_16 (by decide) ?_
  obtain ⟨m4, h1, hf⟩ := bs hf
  refine am_pi X hS fp_X12_104 rfl h1 dX12_begins_17 (fun H locs hS => ?_)
  refine lv_aload_n hx hb dX12_begins_20 rfl (lv_at hl 0 rfl) ?_
  refine lv_iconst (v := (-1)) hx hb dX12_begins_21 (by decide) ?_
  obtain ⟨m5, h1, hf⟩ := bs hf
  refine am_pi X hS fp_X12_98 rfl h1 dX12_begins_22 (fun H locs hS => ?_)
  refine lv_aload_n hx hb dX12_begins_25 rfl (lv_at hl 0 rfl) ?_
  refine lv_iconst (v := 0) hx hb dX12_begins_26 (by decide) ?_
  obtain ⟨m6, h1, hf⟩ := bs hf
  refine am_pi X hS fp_X12_138 rfl h1 dX12_begins_27 (fun H locs hS => ?_)
  cases hf
  exact hret _ _ _ _ dX12_begins_30 hS
set_option maxRecDepth 100000 in
theorem cX12_begins_ok {l : Launch} {E : Ev} {x0 : Nat} {x1 : Int32} {mm : Mem} {mm1 : Mem} (hf : fX12_begins (eS E) x0 x1 mm = some mm1) : CtV l yX12_begins cX12_begins 2 none (0) (0) E [.ref x0, .int x1] mm mm1 := by
  refine Met.ofW (cc := cX12_begins) (maxL := 2) (ret := none) (by decide) rfl ?_
  intro p e s m args below meth c s₁ B hml hv
  obtain ⟨rfl, X, hS, hr, hlocks⟩ := am_in B hv
  refine am_entry (Nat.le_of_ble_eq_true rfl) (fun ls hl => ?_)
  exact wX12_begins X hml ⟨Nat.le_refl _, Nat.le_refl _⟩ hf (fun pc H locs ls hd hS => am_rv X hS hr hd hlocks) _ _ ls hS hl
set_option maxHeartbeats 4000000 in
set_option maxRecDepth 100000 in
theorem wX12_result {p : Program} {l : Launch} {e : Env} {R : Room} {s : State} {m : MethodId} {args : Array Value} {below : List Frame} {meth : Method} {c : Code} {Q : State → Prop} {E : Ev} (X : Cx p s m args c cX12_result RX12 E) (hml : c.maxLocals = 2) (hR : 1 ≤ R.frames ∧ 20 ≤ R.locals) {x0 : Nat} {x1 : Int32} {mm : Mem} {r : Int32} {mm1 : Mem} (hf : fX12_result (eS E) x0 x1 mm = some (r, mm1)) (hret : ∀ (pc : Nat) (H : Heap) (locs : List Loc) (ls : Array Slot), narrow .int (.int r) = .int r → decode cX12_result pc = .ok (.ireturn, 1) → wS E s mm1 H locs → W p l e R s m args below meth c H locs 0 0 Q (F0 m pc ls [.int r])) : ∀ (H : Heap) (locs : List Loc) (ls : Array Slot), wS E s mm H locs → lv_has ls 2 [(0, .ref x0), (1, .int x1)] → W p l e R s m args below meth c H locs 0 0 Q (F0 m 0 ls []) := by
  have hx := X.1
  have hb := X.2.1
  have hR1 := hR.1
  have hR2 := hR.2
  have hRa : 1 ≤ R.frames := by omega
  have hRb : 20 ≤ R.locals := by omega
  unfold fX12_result at hf
  have hj26 : ∀ (s0 : Int32) (mm : Mem) (H : Heap) (locs : List Loc) (ls : Array Slot), fX12_result_j26 (eS E) s0 mm = some (r, mm1) → wS E s mm H locs → lv_has ls 2 [] → W p l e R s m args below meth c H locs 0 0 Q (F0 m 26 ls [.int s0]) := by
    intro s0 mm H locs ls hf hS hl
    unfold fX12_result_j26 at hf
    cases hf
    exact hret _ _ _ _ rfl dX12_result_26 hS
  intro H locs ls hS hl
  refine lv_aload_n hx hb dX12_result_0 rfl (lv_at hl 0 rfl) ?_
  refine lv_aload_n hx hb dX12_result_1 rfl (lv_at hl 0 rfl) ?_
  obtain ⟨v1, h1, hf⟩ := bs hf
  refine am_gi X hS fl_X12_98 rfl h1 dX12_result_2 ?_
  obtain ⟨m2, h1, hf⟩ := bs hf
  refine am_pi X hS fp_X12_17 rfl h1 dX12_result_5 (fun H locs hS => ?_)
  refine lv_aload_n hx hb dX12_result_8 rfl (lv_at hl 0 rfl) ?_
  obtain ⟨u0, h0, hf⟩ := bs hf
  obtain ⟨_, hrc⟩ := isO_n h0
  obtain ⟨v3, h1, hf⟩ := bs hf
  refine am_endi hS (am_runV (As := []) X (hml.trans hl.1.symm) hS (cX12_fine_ok (l := l) (E := E) h1) mv_X12_127 hrc rfl ⟨Nat.le_trans (by decide) hRa, Nat.le_trans (by decide) hRb⟩ ⟨Nat.zero_le _, Nat.zero_le _⟩ rfl rfl (Nat.le_of_ble_eq_true rfl) dX12_result_9) (fun H locs hS => ?_)
  refine lv_if_eq (tgt := 19) hx hb dX12_result_12 (by decide) (fun q4 => ?_) (fun q4 => ?_)
  · have hf := ifp hf q4
    refine lv_aload_n hx hb dX12_result_19 rfl (lv_at hl 0 rfl) ?_
    obtain ⟨v5, h1, hf⟩ := bs hf
    refine am_gi X hS fl_X12_101 rfl h1 dX12_result_20 ?_
    refine lv_bipush (v := 10) hx hb dX12_result_23 (by decide) ?_
    refine lv_isub hx hb dX12_result_25 ?_
    exact hj26 (v5 - 10) m2 H locs ls hf hS (lv_sub hl [] rfl)
  · have hf := ifn hf q4
    refine lv_iload_n hx hb dX12_result_15 rfl (lv_at hl 1 rfl) ?_
    refine lv_goto (tgt := 26) hx hb dX12_result_16 (by decide) ?_
    exact hj26 x1 m2 H locs ls hf hS (lv_sub hl [] rfl)
set_option maxRecDepth 100000 in
theorem cX12_result_ok {l : Launch} {E : Ev} {x0 : Nat} {x1 : Int32} {mm : Mem} {r : Int32} {mm1 : Mem} (hf : fX12_result (eS E) x0 x1 mm = some (r, mm1)) : CtI l yX12_result cX12_result 2 (some .int) (1) (20) E [.ref x0, .int x1] mm r mm1 := by
  refine Met.ofW (cc := cX12_result) (maxL := 2) (ret := (some .int)) (by decide) rfl ?_
  intro p e s m args below meth c s₁ B hml hv
  obtain ⟨rfl, X, hS, hr, hlocks⟩ := am_in B hv
  refine am_entry (Nat.le_of_ble_eq_true rfl) (fun ls hl => ?_)
  exact wX12_result X hml ⟨Nat.le_refl _, Nat.le_refl _⟩ hf (fun pc H locs ls hn hd hS => am_ri X hS hr hn hd hlocks) _ _ ls hS hl
set_option maxHeartbeats 4000000 in
set_option maxRecDepth 100000 in
theorem wX12_fault {p : Program} {l : Launch} {e : Env} {R : Room} {s : State} {m : MethodId} {args : Array Value} {below : List Frame} {meth : Method} {c : Code} {Q : State → Prop} {E : Ev} (X : Cx p s m args c cX12_fault RX12 E) (hml : c.maxLocals = 1) (hR : 0 ≤ R.frames ∧ 0 ≤ R.locals) {x0 : Nat} {mm : Mem} {r : Int32} {mm1 : Mem} (hf : fX12_fault (eS E) x0 mm = some (r, mm1)) (hret : ∀ (pc : Nat) (H : Heap) (locs : List Loc) (ls : Array Slot), narrow .int (.int r) = .int r → decode cX12_fault pc = .ok (.ireturn, 1) → wS E s mm1 H locs → W p l e R s m args below meth c H locs 0 0 Q (F0 m pc ls [.int r])) : ∀ (H : Heap) (locs : List Loc) (ls : Array Slot), wS E s mm H locs → lv_has ls 1 [(0, .ref x0)] → W p l e R s m args below meth c H locs 0 0 Q (F0 m 0 ls []) := by
  have hx := X.1
  have hb := X.2.1
  have hR1 := hR.1
  have hR2 := hR.2
  have hRa : 0 ≤ R.frames := by omega
  have hRb : 0 ≤ R.locals := by omega
  unfold fX12_fault at hf
  intro H locs ls hS hl
  refine lv_aload_n hx hb dX12_fault_0 rfl (lv_at hl 0 rfl) ?_
  refine lv_iconst (v := 0) hx hb dX12_fault_1 (by decide) ?_
  obtain ⟨m1, h1, hf⟩ := bs hf
  refine am_pi X hS fp_X12_3 rfl h1 dX12_fault_2 (fun H locs hS => ?_)
  refine lv_aload_n hx hb dX12_fault_5 rfl (lv_at hl 0 rfl) ?_
  obtain ⟨v2, h1, hf⟩ := bs hf
  refine am_gi X hS fl_X12_17 rfl h1 dX12_fault_6 ?_
  cases hf
  exact hret _ _ _ _ rfl dX12_fault_9 hS
set_option maxRecDepth 100000 in
theorem cX12_fault_ok {l : Launch} {E : Ev} {x0 : Nat} {mm : Mem} {r : Int32} {mm1 : Mem} (hf : fX12_fault (eS E) x0 mm = some (r, mm1)) : CtI l yX12_fault cX12_fault 1 (some .int) (0) (0) E [.ref x0] mm r mm1 := by
  refine Met.ofW (cc := cX12_fault) (maxL := 1) (ret := (some .int)) (by decide) rfl ?_
  intro p e s m args below meth c s₁ B hml hv
  obtain ⟨rfl, X, hS, hr, hlocks⟩ := am_in B hv
  refine am_entry (Nat.le_of_ble_eq_true rfl) (fun ls hl => ?_)
  exact wX12_fault X hml ⟨Nat.le_refl _, Nat.le_refl _⟩ hf (fun pc H locs ls hn hd hS => am_ri X hS hr hn hd hlocks) _ _ ls hS hl
set_option maxHeartbeats 4000000 in
set_option maxRecDepth 100000 in
theorem wX12_copies {p : Program} {l : Launch} {e : Env} {R : Room} {s : State} {m : MethodId} {args : Array Value} {below : List Frame} {meth : Method} {c : Code} {Q : State → Prop} {E : Ev} (X : Cx p s m args c cX12_copies RX12 E) (hml : c.maxLocals = 5) (hR : 0 ≤ R.frames ∧ 0 ≤ R.locals) {x0 : Nat} {x1 : Nat} {x2 : Nat} {x3 : Int32} {mm : Mem} {mm1 : Mem} (hf : fX12_copies (eS E) x0 x1 x2 x3 mm = some mm1) (hret : ∀ (pc : Nat) (H : Heap) (locs : List Loc) (ls : Array Slot), decode cX12_copies pc = .ok (.return_, 1) → wS E s mm1 H locs → W p l e R s m args below meth c H locs 0 0 Q (F0 m pc ls [])) : ∀ (H : Heap) (locs : List Loc) (ls : Array Slot), wS E s mm H locs → lv_has ls 5 [(0, .ref x0), (1, .ref x1), (2, .ref x2), (3, .int x3)] → W p l e R s m args below meth c H locs 0 0 Q (F0 m 0 ls []) := by
  have hx := X.1
  have hb := X.2.1
  have hR1 := hR.1
  have hR2 := hR.2
  have hRa : 0 ≤ R.frames := by omega
  have hRb : 0 ≤ R.locals := by omega
  unfold fX12_copies at hf
  have hj23 : ∀ (mm : Mem) (H : Heap) (locs : List Loc) (ls : Array Slot), fX12_copies_j23 (eS E) mm = some mm1 → wS E s mm H locs → lv_has ls 5 [] → W p l e R s m args below meth c H locs 0 0 Q (F0 m 23 ls []) := by
    intro mm H locs ls hf hS hl
    unfold fX12_copies_j23 at hf
    cases hf
    exact hret _ _ _ _ dX12_copies_23 hS
  intro H locs ls hS hl
  refine lv_iconst (v := 0) hx hb dX12_copies_0 (by decide) ?_
  refine lv_topi (fun x4_1 e1 => ?_)
  have hf := lt1_n e1 hf
  refine lv_istore (lv' := [(4, .int x4_1), (0, .ref x0), (1, .ref x1), (2, .ref x2), (3, .int x3)]) hx hb dX12_copies_1 hl (by decide) rfl (fun ls hl => ?_)
  obtain ⟨ex3, hl3, hk3⟩ := bs hf
  refine loop_W (P := fun st => ∀ (H : Heap) (locs : List Loc) (ls : Array Slot), wS E s st.2 H locs → lv_has ls 5 [(1, .ref x1), (2, .ref x2), (3, .int x3), (4, .int st.1)] → W p l e R s m args below meth c H locs 0 0 Q (F0 m 3 ls [])) (ex := ex3) ?_ FU _ hl3 H locs ls hS (lv_sub hl [2, 3, 4, 0] rfl)
  intro st y3 hf hyL3 hyR3 H locs ls hS hl
  obtain ⟨x4, mm⟩ := st
  have hf : fX12_copies_b3 (eS E) x1 x2 x3 x4 mm = some y3 := hf
  have hS : wS E s mm H locs := hS
  have hl : lv_has ls 5 [(1, .ref x1), (2, .ref x2), (3, .int x3), (4, .int x4)] := hl
  unfold fX12_copies_b3 at hf
  refine lv_iload hx hb dX12_copies_3 (lv_at hl 3 rfl) ?_
  refine lv_iload_n hx hb dX12_copies_5 rfl (lv_at hl 2 rfl) ?_
  refine lv_icmp_ge (tgt := 23) hx hb dX12_copies_6 (by decide) (fun q2 => ?_) (fun q2 => ?_)
  · have hf := ifp hf q2
    obtain rfl : mm = ex3 := hyR3 _ (Option.some.inj hf).symm
    exact hj23 mm H locs ls hk3 hS (lv_sub hl [] rfl)
  · have hf := ifn hf q2
    refine lv_aload_n hx hb dX12_copies_9 rfl (lv_at hl 1 rfl) ?_
    refine lv_iload hx hb dX12_copies_10 (lv_at hl 3 rfl) ?_
    refine lv_aload_n hx hb dX12_copies_12 rfl (lv_at hl 0 rfl) ?_
    refine lv_iload hx hb dX12_copies_13 (lv_at hl 3 rfl) ?_
    obtain ⟨v3, h1, hf⟩ := bs hf
    refine am_ald X hS h1 dX12_copies_15 ?_
    obtain ⟨m4, h1, hf⟩ := bs hf
    refine am_ast X hS h1 dX12_copies_16 (fun H locs hS => ?_)
    obtain ⟨x4_5, e1⟩ : ∃ z : Int32, z = x4 + 1 := ⟨_, rfl⟩
    have hf := lt1_n e1 hf
    refine lv_iinc (v := x4_5) (lv' := [(4, .int x4_5), (1, .ref x1), (2, .ref x2), (3, .int x3)]) hx hb dX12_copies_17 hl (k := 3) rfl (by rw [e1]; rfl) (by decide) rfl (fun ls hl => ?_)
    refine lv_goto (tgt := 3) hx hb dX12_copies_20 (by decide) ?_
    exact hyL3 _ (Option.some.inj hf).symm H locs ls hS (lv_sub hl [1, 2, 3, 0] rfl)
set_option maxRecDepth 100000 in
theorem cX12_copies_ok {l : Launch} {E : Ev} {x0 : Nat} {x1 : Nat} {x2 : Nat} {x3 : Int32} {mm : Mem} {mm1 : Mem} (hf : fX12_copies (eS E) x0 x1 x2 x3 mm = some mm1) : CtV l yX12_copies cX12_copies 5 none (0) (0) E [.ref x0, .ref x1, .ref x2, .int x3] mm mm1 := by
  refine Met.ofW (cc := cX12_copies) (maxL := 5) (ret := none) (by decide) rfl ?_
  intro p e s m args below meth c s₁ B hml hv
  obtain ⟨rfl, X, hS, hr, hlocks⟩ := am_in B hv
  refine am_entry (Nat.le_of_ble_eq_true rfl) (fun ls hl => ?_)
  exact wX12_copies X hml ⟨Nat.le_refl _, Nat.le_refl _⟩ hf (fun pc H locs ls hd hS => am_rv X hS hr hd hlocks) _ _ ls hS hl
set_option maxHeartbeats 4000000 in
set_option maxRecDepth 100000 in
theorem wX12_clears {p : Program} {l : Launch} {e : Env} {R : Room} {s : State} {m : MethodId} {args : Array Value} {below : List Frame} {meth : Method} {c : Code} {Q : State → Prop} {E : Ev} (X : Cx p s m args c cX12_clears RX12 E) (hml : c.maxLocals = 1) (hR : 0 ≤ R.frames ∧ 0 ≤ R.locals) {x0 : Nat} {mm : Mem} {mm1 : Mem} (hf : fX12_clears (eS E) x0 mm = some mm1) (hret : ∀ (pc : Nat) (H : Heap) (locs : List Loc) (ls : Array Slot), decode cX12_clears pc = .ok (.return_, 1) → wS E s mm1 H locs → W p l e R s m args below meth c H locs 0 0 Q (F0 m pc ls [])) : ∀ (H : Heap) (locs : List Loc) (ls : Array Slot), wS E s mm H locs → lv_has ls 1 [(0, .ref x0)] → W p l e R s m args below meth c H locs 0 0 Q (F0 m 0 ls []) := by
  have hx := X.1
  have hb := X.2.1
  have hR1 := hR.1
  have hR2 := hR.2
  have hRa : 0 ≤ R.frames := by omega
  have hRb : 0 ≤ R.locals := by omega
  unfold fX12_clears at hf
  intro H locs ls hS hl
  refine lv_aload_n hx hb dX12_clears_0 rfl (lv_at hl 0 rfl) ?_
  refine lv_iconst (v := 0) hx hb dX12_clears_1 (by decide) ?_
  obtain ⟨m1, h1, hf⟩ := bs hf
  refine am_pi X hS fp_X12_141 rfl h1 dX12_clears_2 (fun H locs hS => ?_)
  refine lv_aload_n hx hb dX12_clears_5 rfl (lv_at hl 0 rfl) ?_
  refine lv_iconst (v := 0) hx hb dX12_clears_6 (by decide) ?_
  obtain ⟨m2, h1, hf⟩ := bs hf
  refine am_pi X hS fp_X12_144 rfl h1 dX12_clears_7 (fun H locs hS => ?_)
  refine lv_aload_n hx hb dX12_clears_10 rfl (lv_at hl 0 rfl) ?_
  refine lv_bipush (v := 60) hx hb dX12_clears_11 (by decide) ?_
  obtain ⟨m3, h1, hf⟩ := bs hf
  refine am_pi X hS fp_X12_147 rfl h1 dX12_clears_13 (fun H locs hS => ?_)
  cases hf
  exact hret _ _ _ _ dX12_clears_16 hS
set_option maxRecDepth 100000 in
theorem cX12_clears_ok {l : Launch} {E : Ev} {x0 : Nat} {mm : Mem} {mm1 : Mem} (hf : fX12_clears (eS E) x0 mm = some mm1) : CtV l yX12_clears cX12_clears 1 none (0) (0) E [.ref x0] mm mm1 := by
  refine Met.ofW (cc := cX12_clears) (maxL := 1) (ret := none) (by decide) rfl ?_
  intro p e s m args below meth c s₁ B hml hv
  obtain ⟨rfl, X, hS, hr, hlocks⟩ := am_in B hv
  refine am_entry (Nat.le_of_ble_eq_true rfl) (fun ls hl => ?_)
  exact wX12_clears X hml ⟨Nat.le_refl _, Nat.le_refl _⟩ hf (fun pc H locs ls hd hS => am_rv X hS hr hd hlocks) _ _ ls hS hl
set_option maxHeartbeats 4000000 in
set_option maxRecDepth 100000 in
theorem wX12_sets {p : Program} {l : Launch} {e : Env} {R : Room} {s : State} {m : MethodId} {args : Array Value} {below : List Frame} {meth : Method} {c : Code} {Q : State → Prop} {E : Ev} (X : Cx p s m args c cX12_sets RX12 E) (hml : c.maxLocals = 2) (hR : 1 ≤ R.frames ∧ 24 ≤ R.locals) {x0 : Nat} {mm : Mem} {mm1 : Mem} (hf : fX12_sets (eS E) x0 mm = some mm1) (hret : ∀ (pc : Nat) (H : Heap) (locs : List Loc) (ls : Array Slot), decode cX12_sets pc = .ok (.return_, 1) → wS E s mm1 H locs → W p l e R s m args below meth c H locs 0 0 Q (F0 m pc ls [])) : ∀ (H : Heap) (locs : List Loc) (ls : Array Slot), wS E s mm H locs → lv_has ls 2 [(0, .ref x0)] → W p l e R s m args below meth c H locs 0 0 Q (F0 m 0 ls []) := by
  have hx := X.1
  have hb := X.2.1
  have hR1 := hR.1
  have hR2 := hR.2
  have hRa : 1 ≤ R.frames := by omega
  have hRb : 24 ≤ R.locals := by omega
  unfold fX12_sets at hf
  have hj119 : ∀ (mm : Mem) (H : Heap) (locs : List Loc) (ls : Array Slot), fX12_sets_j119 (eS E) mm = some mm1 → wS E s mm H locs → lv_has ls 2 [] → W p l e R s m args below meth c H locs 0 0 Q (F0 m 119 ls []) := by
    intro mm H locs ls hf hS hl
    unfold fX12_sets_j119 at hf
    cases hf
    exact hret _ _ _ _ dX12_sets_119 hS
  intro H locs ls hS hl
  refine lv_aload_n hx hb dX12_sets_0 rfl (lv_at hl 0 rfl) ?_
  refine lv_aload_n hx hb dX12_sets_1 rfl (lv_at hl 0 rfl) ?_
  obtain ⟨v1, h1, hf⟩ := bs hf
  refine am_gi X hS fl_X12_141 rfl h1 dX12_sets_2 ?_
  obtain ⟨m2, h1, hf⟩ := bs hf
  refine am_pi X hS fp_X12_150 rfl h1 dX12_sets_5 (fun H locs hS => ?_)
  refine lv_aload_n hx hb dX12_sets_8 rfl (lv_at hl 0 rfl) ?_
  refine lv_aload_n hx hb dX12_sets_9 rfl (lv_at hl 0 rfl) ?_
  obtain ⟨v3, h1, hf⟩ := bs hf
  refine am_gi X hS fl_X12_144 rfl h1 dX12_sets_10 ?_
  obtain ⟨m4, h1, hf⟩ := bs hf
  refine am_pi X hS fp_X12_153 rfl h1 dX12_sets_13 (fun H locs hS => ?_)
  refine lv_aload_n hx hb dX12_sets_16 rfl (lv_at hl 0 rfl) ?_
  refine lv_aload_n hx hb dX12_sets_17 rfl (lv_at hl 0 rfl) ?_
  obtain ⟨v5, h1, hf⟩ := bs hf
  refine am_gi X hS fl_X12_147 rfl h1 dX12_sets_18 ?_
  obtain ⟨m6, h1, hf⟩ := bs hf
  refine am_pi X hS fp_X12_156 rfl h1 dX12_sets_21 (fun H locs hS => ?_)
  refine lv_aload_n hx hb dX12_sets_24 rfl (lv_at hl 0 rfl) ?_
  refine lv_aload_n hx hb dX12_sets_25 rfl (lv_at hl 0 rfl) ?_
  obtain ⟨a7, h1, hf⟩ := bs hf
  refine am_gr X hS fl_X12_23 rfl h1 dX12_sets_26 ?_
  refine lv_aload_n hx hb dX12_sets_29 rfl (lv_at hl 0 rfl) ?_
  obtain ⟨a8, h1, hf⟩ := bs hf
  refine am_gr X hS fl_X12_29 rfl h1 dX12_sets_30 ?_
  refine lv_bipush (v := 42) hx hb dX12_sets_33 (by decide) ?_
  obtain ⟨u0, h0, hf⟩ := bs hf
  obtain ⟨_, hrc⟩ := isO_n h0
  obtain ⟨m9, h1, hf⟩ := bs hf
  refine am_endv hS (am_runV (As := [.ref a7, .ref a8, .int 42]) X (hml.trans hl.1.symm) hS (cX12_copies_ok (l := l) (E := E) h1) mv_X12_159 hrc rfl ⟨Nat.le_trans (by decide) hRa, Nat.le_trans (by decide) hRb⟩ ⟨Nat.zero_le _, Nat.zero_le _⟩ rfl rfl (Nat.le_of_ble_eq_true rfl) dX12_sets_35) (fun H locs hS => ?_)
  refine lv_aload_n hx hb dX12_sets_38 rfl (lv_at hl 0 rfl) ?_
  refine lv_aload_n hx hb dX12_sets_39 rfl (lv_at hl 0 rfl) ?_
  obtain ⟨a10, h1, hf⟩ := bs hf
  refine am_gr X hS fl_X12_26 rfl h1 dX12_sets_40 ?_
  refine lv_aload_n hx hb dX12_sets_43 rfl (lv_at hl 0 rfl) ?_
  obtain ⟨a11, h1, hf⟩ := bs hf
  refine am_gr X hS fl_X12_32 rfl h1 dX12_sets_44 ?_
  refine lv_bipush (v := 16) hx hb dX12_sets_47 (by decide) ?_
  obtain ⟨u0, h0, hf⟩ := bs hf
  obtain ⟨_, hrc⟩ := isO_n h0
  obtain ⟨m12, h1, hf⟩ := bs hf
  refine am_endv hS (am_runV (As := [.ref a10, .ref a11, .int 16]) X (hml.trans hl.1.symm) hS (cX12_copies_ok (l := l) (E := E) h1) mv_X12_159 hrc rfl ⟨Nat.le_trans (by decide) hRa, Nat.le_trans (by decide) hRb⟩ ⟨Nat.zero_le _, Nat.zero_le _⟩ rfl rfl (Nat.le_of_ble_eq_true rfl) dX12_sets_49) (fun H locs hS => ?_)
  refine lv_aload_n hx hb dX12_sets_52 rfl (lv_at hl 0 rfl) ?_
  refine lv_iconst (v := 0) hx hb dX12_sets_53 (by decide) ?_
  obtain ⟨m13, h1, hf⟩ := bs hf
  refine am_pi X hS fp_X12_163 rfl h1 dX12_sets_54 (fun H locs hS => ?_)
  refine lv_aload_n hx hb dX12_sets_57 rfl (lv_at hl 0 rfl) ?_
  refine lv_iconst (v := 0) hx hb dX12_sets_58 (by decide) ?_
  obtain ⟨m14, h1, hf⟩ := bs hf
  refine am_pi X hS fp_X12_166 rfl h1 dX12_sets_59 (fun H locs hS => ?_)
  refine lv_aload_n hx hb dX12_sets_62 rfl (lv_at hl 0 rfl) ?_
  refine lv_iconst (v := 0) hx hb dX12_sets_63 (by decide) ?_
  obtain ⟨m15, h1, hf⟩ := bs hf
  refine am_pi X hS fp_X12_169 rfl h1 dX12_sets_64 (fun H locs hS => ?_)
  refine lv_aload_n hx hb dX12_sets_67 rfl (lv_at hl 0 rfl) ?_
  refine lv_iconst (v := 0) hx hb dX12_sets_68 (by decide) ?_
  obtain ⟨m16, h1, hf⟩ := bs hf
  refine am_pi X hS fp_X12_172 rfl h1 dX12_sets_69 (fun H locs hS => ?_)
  refine lv_aload_n hx hb dX12_sets_72 rfl (lv_at hl 0 rfl) ?_
  refine lv_iconst (v := 0) hx hb dX12_sets_73 (by decide) ?_
  obtain ⟨m17, h1, hf⟩ := bs hf
  refine am_pi X hS fp_X12_175 rfl h1 dX12_sets_74 (fun H locs hS => ?_)
  refine lv_iconst (v := 0) hx hb dX12_sets_77 (by decide) ?_
  refine lv_topi (fun x1_18 e1 => ?_)
  have hf := lt1_n e1 hf
  refine lv_istore_n (lv' := [(1, .int x1_18), (0, .ref x0)]) hx hb dX12_sets_78 rfl hl (by decide) rfl (fun ls hl => ?_)
  obtain ⟨ex79, hl79, hk79⟩ := bs hf
  refine loop_W (P := fun st => ∀ (H : Heap) (locs : List Loc) (ls : Array Slot), wS E s st.2 H locs → lv_has ls 2 [(0, .ref x0), (1, .int st.1)] → W p l e R s m args below meth c H locs 0 0 Q (F0 m 79 ls [])) (ex := ex79) ?_ FU _ hl79 H locs ls hS (lv_sub hl [1, 0] rfl)
  intro st y79 hf hyL79 hyR79 H locs ls hS hl
  obtain ⟨x1, mm⟩ := st
  have hf : fX12_sets_b79 (eS E) x0 x1 mm = some y79 := hf
  have hS : wS E s mm H locs := hS
  have hl : lv_has ls 2 [(0, .ref x0), (1, .int x1)] := hl
  unfold fX12_sets_b79 at hf
  have hj112 : ∀ (x1 : Int32) (s0 : Nat) (s1 : Int32) (s2 : Int32) (mm : Mem) (H : Heap) (locs : List Loc) (ls : Array Slot), fX12_sets_j112 (eS E) x0 x1 s0 s1 s2 mm = some y79 → wS E s mm H locs → lv_has ls 2 [(0, .ref x0), (1, .int x1)] → W p l e R s m args below meth c H locs 0 0 Q (F0 m 112 ls [.int s2, .int s1, .ref s0]) := by
    intro x1 s0 s1 s2 mm H locs ls hf hS hl
    unfold fX12_sets_j112 at hf
    obtain ⟨m19, h1, hf⟩ := bs hf
    refine am_ast X hS h1 dX12_sets_112 (fun H locs hS => ?_)
    obtain ⟨x1_20, e1⟩ : ∃ z : Int32, z = x1 + 1 := ⟨_, rfl⟩
    have hf := lt1_n e1 hf
    refine lv_iinc (v := x1_20) (lv' := [(1, .int x1_20), (0, .ref x0)]) hx hb dX12_sets_113 hl (k := 1) rfl (by rw [e1]; rfl) (by decide) rfl (fun ls hl => ?_)
    refine lv_goto (tgt := 79) hx hb dX12_sets_116 (by decide) ?_
    exact hyL79 _ (Option.some.inj hf).symm H locs ls hS (lv_sub hl [1, 0] rfl)
  refine lv_iload_n hx hb dX12_sets_79 rfl (lv_at hl 1 rfl) ?_
  refine lv_sipush (v := 175) hx hb dX12_sets_80 (by decide) ?_
  refine lv_icmp_ge (tgt := 119) hx hb dX12_sets_83 (by decide) (fun q21 => ?_) (fun q21 => ?_)
  · have hf := ifp hf q21
    obtain rfl : mm = ex79 := hyR79 _ (Option.some.inj hf).symm
    exact hj119 mm H locs ls hk79 hS (lv_sub hl [] rfl)
  · have hf := ifn hf q21
    refine lv_aload_n hx hb dX12_sets_86 rfl (lv_at hl 0 rfl) ?_
    obtain ⟨a22, h1, hf⟩ := bs hf
    refine am_gr X hS fl_X12_59 rfl h1 dX12_sets_87 ?_
    refine lv_iload_n hx hb dX12_sets_90 rfl (lv_at hl 1 rfl) ?_
    refine lv_iload_n hx hb dX12_sets_91 rfl (lv_at hl 1 rfl) ?_
    refine lv_bipush (v := 7) hx hb dX12_sets_92 (by decide) ?_
    refine lv_aload_n hx hb dX12_sets_94 rfl (lv_at hl 0 rfl) ?_
    obtain ⟨v23, h1, hf⟩ := bs hf
    refine am_gi X hS fl_X12_150 rfl h1 dX12_sets_95 ?_
    refine lv_imul hx hb dX12_sets_98 ?_
    refine lv_icmp_ge (tgt := 111) hx hb dX12_sets_99 (by decide) (fun q24 => ?_) (fun q24 => ?_)
    · have hf := ifp hf q24
      refine lv_iconst (v := 0) hx hb dX12_sets_111 (by decide) ?_
      exact hj112 x1 a22 x1 0 mm H locs ls hf hS hl
    · have hf := ifn hf q24
      refine lv_aload_n hx hb dX12_sets_102 rfl (lv_at hl 0 rfl) ?_
      obtain ⟨a25, h1, hf⟩ := bs hf
      refine am_gr X hS fl_X12_29 rfl h1 dX12_sets_103 ?_
      refine lv_iload_n hx hb dX12_sets_106 rfl (lv_at hl 1 rfl) ?_
      obtain ⟨v26, h1, hf⟩ := bs hf
      refine am_ald X hS h1 dX12_sets_107 ?_
      refine lv_goto (tgt := 112) hx hb dX12_sets_108 (by decide) ?_
      exact hj112 x1 a22 x1 v26 mm H locs ls hf hS hl
set_option maxRecDepth 100000 in
theorem cX12_sets_ok {l : Launch} {E : Ev} {x0 : Nat} {mm : Mem} {mm1 : Mem} (hf : fX12_sets (eS E) x0 mm = some mm1) : CtV l yX12_sets cX12_sets 2 none (1) (24) E [.ref x0] mm mm1 := by
  refine Met.ofW (cc := cX12_sets) (maxL := 2) (ret := none) (by decide) rfl ?_
  intro p e s m args below meth c s₁ B hml hv
  obtain ⟨rfl, X, hS, hr, hlocks⟩ := am_in B hv
  refine am_entry (Nat.le_of_ble_eq_true rfl) (fun ls hl => ?_)
  exact wX12_sets X hml ⟨Nat.le_refl _, Nat.le_refl _⟩ hf (fun pc H locs ls hd hS => am_rv X hS hr hd hlocks) _ _ ls hS hl
set_option maxHeartbeats 4000000 in
set_option maxRecDepth 100000 in
theorem wX12_emit {p : Program} {l : Launch} {e : Env} {R : Room} {s : State} {m : MethodId} {args : Array Value} {below : List Frame} {meth : Method} {c : Code} {Q : State → Prop} {E : Ev} (X : Cx p s m args c cX12_emit RX12 E) (hml : c.maxLocals = 3) (hR : 1 ≤ R.frames ∧ 20 ≤ R.locals) {x0 : Nat} {x1 : Int32} {x2 : Int32} {mm : Mem} {mm1 : Mem} (hf : fX12_emit (eS E) x0 x1 x2 mm = some mm1) (hret : ∀ (pc : Nat) (H : Heap) (locs : List Loc) (ls : Array Slot), decode cX12_emit pc = .ok (.return_, 1) → wS E s mm1 H locs → W p l e R s m args below meth c H locs 0 0 Q (F0 m pc ls [])) : ∀ (H : Heap) (locs : List Loc) (ls : Array Slot), wS E s mm H locs → lv_has ls 3 [(0, .ref x0), (1, .int x1), (2, .int x2)] → W p l e R s m args below meth c H locs 0 0 Q (F0 m 0 ls []) := by
  have hx := X.1
  have hb := X.2.1
  have hR1 := hR.1
  have hR2 := hR.2
  have hRa : 1 ≤ R.frames := by omega
  have hRb : 20 ≤ R.locals := by omega
  unfold fX12_emit at hf
  intro H locs ls hS hl
  refine lv_aload_n hx hb dX12_emit_0 rfl (lv_at hl 0 rfl) ?_
  obtain ⟨u0, h0, hf⟩ := bs hf
  obtain ⟨_, hrc⟩ := isO_n h0
  obtain ⟨v1, h1, hf⟩ := bs hf
  refine am_endi hS (am_runV (As := []) X (hml.trans hl.1.symm) hS (cX12_fine_ok (l := l) (E := E) h1) mv_X12_127 hrc rfl ⟨Nat.le_trans (by decide) hRa, Nat.le_trans (by decide) hRb⟩ ⟨Nat.zero_le _, Nat.zero_le _⟩ rfl rfl (Nat.le_of_ble_eq_true rfl) dX12_emit_1) (fun H locs hS => ?_)
  refine lv_if_ne (tgt := 8) hx hb dX12_emit_4 (by decide) (fun q2 => ?_) (fun q2 => ?_)
  · have hf := ifn hf q2
    refine lv_aload_n hx hb dX12_emit_8 rfl (lv_at hl 0 rfl) ?_
    obtain ⟨a3, h1, hf⟩ := bs hf
    refine am_gr X hS fl_X12_35 rfl h1 dX12_emit_9 ?_
    refine lv_aload_n hx hb dX12_emit_12 rfl (lv_at hl 0 rfl) ?_
    obtain ⟨v4, h1, hf⟩ := bs hf
    refine am_gi X hS fl_X12_223 rfl h1 dX12_emit_13 ?_
    refine lv_iload_n hx hb dX12_emit_16 rfl (lv_at hl 1 rfl) ?_
    obtain ⟨m5, h1, hf⟩ := bs hf
    refine am_ast X hS h1 dX12_emit_17 (fun H locs hS => ?_)
    refine lv_aload_n hx hb dX12_emit_18 rfl (lv_at hl 0 rfl) ?_
    obtain ⟨a6, h1, hf⟩ := bs hf
    refine am_gr X hS fl_X12_38 rfl h1 dX12_emit_19 ?_
    refine lv_aload_n hx hb dX12_emit_22 rfl (lv_at hl 0 rfl) ?_
    obtain ⟨v7, h1, hf⟩ := bs hf
    refine am_gi X hS fl_X12_223 rfl h1 dX12_emit_23 ?_
    refine lv_iload_n hx hb dX12_emit_26 rfl (lv_at hl 2 rfl) ?_
    obtain ⟨m8, h1, hf⟩ := bs hf
    refine am_ast X hS h1 dX12_emit_27 (fun H locs hS => ?_)
    refine lv_aload_n hx hb dX12_emit_28 rfl (lv_at hl 0 rfl) ?_
    refine lv_dup hx hb dX12_emit_29 rfl ?_
    obtain ⟨v9, h1, hf⟩ := bs hf
    refine am_gi X hS fl_X12_223 rfl h1 dX12_emit_30 ?_
    refine lv_iconst (v := 1) hx hb dX12_emit_33 (by decide) ?_
    refine lv_iadd hx hb dX12_emit_34 ?_
    obtain ⟨m10, h1, hf⟩ := bs hf
    refine am_pi X hS fp_X12_223 rfl h1 dX12_emit_35 (fun H locs hS => ?_)
    cases hf
    exact hret _ _ _ _ dX12_emit_38 hS
  · have hf := ifp hf q2
    cases hf
    exact hret _ _ _ _ dX12_emit_7 hS
set_option maxRecDepth 100000 in
theorem cX12_emit_ok {l : Launch} {E : Ev} {x0 : Nat} {x1 : Int32} {x2 : Int32} {mm : Mem} {mm1 : Mem} (hf : fX12_emit (eS E) x0 x1 x2 mm = some mm1) : CtV l yX12_emit cX12_emit 3 none (1) (20) E [.ref x0, .int x1, .int x2] mm mm1 := by
  refine Met.ofW (cc := cX12_emit) (maxL := 3) (ret := none) (by decide) rfl ?_
  intro p e s m args below meth c s₁ B hml hv
  obtain ⟨rfl, X, hS, hr, hlocks⟩ := am_in B hv
  refine am_entry (Nat.le_of_ble_eq_true rfl) (fun ls hl => ?_)
  exact wX12_emit X hml ⟨Nat.le_refl _, Nat.le_refl _⟩ hf (fun pc H locs ls hd hS => am_rv X hS hr hd hlocks) _ _ ls hS hl
set_option maxHeartbeats 4000000 in
set_option maxRecDepth 100000 in
theorem wX12_opensOne {p : Program} {l : Launch} {e : Env} {R : Room} {s : State} {m : MethodId} {args : Array Value} {below : List Frame} {meth : Method} {c : Code} {Q : State → Prop} {E : Ev} (X : Cx p s m args c cX12_opensOne RX12 E) (hml : c.maxLocals = 2) (hR : 1 ≤ R.frames ∧ 22 ≤ R.locals) {x0 : Nat} {x1 : Int32} {mm : Mem} {mm1 : Mem} (hf : fX12_opensOne (eS E) x0 x1 mm = some mm1) (hret : ∀ (pc : Nat) (H : Heap) (locs : List Loc) (ls : Array Slot), decode cX12_opensOne pc = .ok (.return_, 1) → wS E s mm1 H locs → W p l e R s m args below meth c H locs 0 0 Q (F0 m pc ls [])) : ∀ (H : Heap) (locs : List Loc) (ls : Array Slot), wS E s mm H locs → lv_has ls 2 [(0, .ref x0), (1, .int x1)] → W p l e R s m args below meth c H locs 0 0 Q (F0 m 0 ls []) := by
  have hx := X.1
  have hb := X.2.1
  have hR1 := hR.1
  have hR2 := hR.2
  have hRa : 1 ≤ R.frames := by omega
  have hRb : 22 ≤ R.locals := by omega
  unfold fX12_opensOne at hf
  have hj42 : ∀ (x0 : Nat) (mm : Mem) (H : Heap) (locs : List Loc) (ls : Array Slot), fX12_opensOne_j42 (eS E) x0 mm = some mm1 → wS E s mm H locs → lv_has ls 2 [(0, .ref x0)] → W p l e R s m args below meth c H locs 0 0 Q (F0 m 42 ls []) := by
    intro x0 mm H locs ls hf hS hl
    unfold fX12_opensOne_j42 at hf
    refine lv_aload_n hx hb dX12_opensOne_42 rfl (lv_at hl 0 rfl) ?_
    refine lv_dup hx hb dX12_opensOne_43 rfl ?_
    obtain ⟨v1, h1, hf⟩ := bs hf
    refine am_gi X hS fl_X12_138 rfl h1 dX12_opensOne_44 ?_
    refine lv_iconst (v := 1) hx hb dX12_opensOne_47 (by decide) ?_
    refine lv_iadd hx hb dX12_opensOne_48 ?_
    obtain ⟨m2, h1, hf⟩ := bs hf
    refine am_pi X hS fp_X12_138 rfl h1 dX12_opensOne_49 (fun H locs hS => ?_)
    cases hf
    exact hret _ _ _ _ dX12_opensOne_52 hS
  have hj25 : ∀ (x0 : Nat) (x1 : Int32) (mm : Mem) (H : Heap) (locs : List Loc) (ls : Array Slot), fX12_opensOne_j25 (eS E) x0 x1 mm = some mm1 → wS E s mm H locs → lv_has ls 2 [(0, .ref x0), (1, .int x1)] → W p l e R s m args below meth c H locs 0 0 Q (F0 m 25 ls []) := by
    intro x0 x1 mm H locs ls hf hS hl
    unfold fX12_opensOne_j25 at hf
    refine lv_aload_n hx hb dX12_opensOne_25 rfl (lv_at hl 0 rfl) ?_
    obtain ⟨u0, h0, hf⟩ := bs hf
    obtain ⟨_, hrc⟩ := isO_n h0
    obtain ⟨v3, h1, hf⟩ := bs hf
    refine am_endi hS (am_runV (As := []) X (hml.trans hl.1.symm) hS (cX12_fine_ok (l := l) (E := E) h1) mv_X12_127 hrc rfl ⟨Nat.le_trans (by decide) hRa, Nat.le_trans (by decide) hRb⟩ ⟨Nat.zero_le _, Nat.zero_le _⟩ rfl rfl (Nat.le_of_ble_eq_true rfl) dX12_opensOne_26) (fun H locs hS => ?_)
    refine lv_if_eq (tgt := 42) hx hb dX12_opensOne_29 (by decide) (fun q4 => ?_) (fun q4 => ?_)
    · have hf := ifp hf q4
      exact hj42 x0 mm H locs ls hf hS (lv_sub hl [0] rfl)
    · have hf := ifn hf q4
      refine lv_aload_n hx hb dX12_opensOne_32 rfl (lv_at hl 0 rfl) ?_
      refine lv_dup hx hb dX12_opensOne_33 rfl ?_
      obtain ⟨v5, h1, hf⟩ := bs hf
      refine am_gi X hS fl_X12_104 rfl h1 dX12_opensOne_34 ?_
      refine lv_iload_n hx hb dX12_opensOne_37 rfl (lv_at hl 1 rfl) ?_
      refine lv_iadd hx hb dX12_opensOne_38 ?_
      obtain ⟨m6, h1, hf⟩ := bs hf
      refine am_pi X hS fp_X12_104 rfl h1 dX12_opensOne_39 (fun H locs hS => ?_)
      exact hj42 x0 m6 H locs ls hf hS (lv_sub hl [0] rfl)
  intro H locs ls hS hl
  refine lv_aload_n hx hb dX12_opensOne_0 rfl (lv_at hl 0 rfl) ?_
  obtain ⟨u0, h0, hf⟩ := bs hf
  obtain ⟨_, hrc⟩ := isO_n h0
  obtain ⟨v7, h1, hf⟩ := bs hf
  refine am_endi hS (am_runV (As := []) X (hml.trans hl.1.symm) hS (cX12_fine_ok (l := l) (E := E) h1) mv_X12_127 hrc rfl ⟨Nat.le_trans (by decide) hRa, Nat.le_trans (by decide) hRb⟩ ⟨Nat.zero_le _, Nat.zero_le _⟩ rfl rfl (Nat.le_of_ble_eq_true rfl) dX12_opensOne_1) (fun H locs hS => ?_)
  refine lv_if_eq (tgt := 25) hx hb dX12_opensOne_4 (by decide) (fun q8 => ?_) (fun q8 => ?_)
  · have hf := ifp hf q8
    exact hj25 x0 x1 mm H locs ls hf hS hl
  · have hf := ifn hf q8
    refine lv_aload_n hx hb dX12_opensOne_7 rfl (lv_at hl 0 rfl) ?_
    obtain ⟨v9, h1, hf⟩ := bs hf
    refine am_gi X hS fl_X12_138 rfl h1 dX12_opensOne_8 ?_
    refine lv_bipush (v := 6) hx hb dX12_opensOne_11 (by decide) ?_
    refine lv_icmp_ne (tgt := 25) hx hb dX12_opensOne_13 (by decide) (fun q10 => ?_) (fun q10 => ?_)
    · have hf := ifn hf q10
      exact hj25 x0 x1 mm H locs ls hf hS hl
    · have hf := ifp hf q10
      refine lv_aload_n hx hb dX12_opensOne_16 rfl (lv_at hl 0 rfl) ?_
      refine lv_iconst (v := 3) hx hb dX12_opensOne_17 (by decide) ?_
      refine lv_aload_n hx hb dX12_opensOne_18 rfl (lv_at hl 0 rfl) ?_
      obtain ⟨v11, h1, hf⟩ := bs hf
      refine am_gi X hS fl_X12_104 rfl h1 dX12_opensOne_19 ?_
      obtain ⟨u0, h0, hf⟩ := bs hf
      obtain ⟨_, hrc⟩ := isO_n h0
      obtain ⟨m12, h1, hf⟩ := bs hf
      refine am_endv hS (am_runV (As := [.int 3, .int v11]) X (hml.trans hl.1.symm) hS (cX12_wrong_ok (l := l) (E := E) h1) mv_X12_134 hrc rfl ⟨Nat.le_trans (by decide) hRa, Nat.le_trans (by decide) hRb⟩ ⟨Nat.zero_le _, Nat.zero_le _⟩ rfl rfl (Nat.le_of_ble_eq_true rfl) dX12_opensOne_22) (fun H locs hS => ?_)
      exact hj25 x0 x1 m12 H locs ls hf hS hl
set_option maxRecDepth 100000 in
theorem cX12_opensOne_ok {l : Launch} {E : Ev} {x0 : Nat} {x1 : Int32} {mm : Mem} {mm1 : Mem} (hf : fX12_opensOne (eS E) x0 x1 mm = some mm1) : CtV l yX12_opensOne cX12_opensOne 2 none (1) (22) E [.ref x0, .int x1] mm mm1 := by
  refine Met.ofW (cc := cX12_opensOne) (maxL := 2) (ret := none) (by decide) rfl ?_
  intro p e s m args below meth c s₁ B hml hv
  obtain ⟨rfl, X, hS, hr, hlocks⟩ := am_in B hv
  refine am_entry (Nat.le_of_ble_eq_true rfl) (fun ls hl => ?_)
  exact wX12_opensOne X hml ⟨Nat.le_refl _, Nat.le_refl _⟩ hf (fun pc H locs ls hd hS => am_rv X hS hr hd hlocks) _ _ ls hS hl
set_option maxHeartbeats 4000000 in
set_option maxRecDepth 100000 in
theorem wX12_both {p : Program} {l : Launch} {e : Env} {R : Room} {s : State} {m : MethodId} {args : Array Value} {below : List Frame} {meth : Method} {c : Code} {Q : State → Prop} {E : Ev} (X : Cx p s m args c cX12_both RX12 E) (hml : c.maxLocals = 3) (hR : 0 ≤ R.frames ∧ 0 ≤ R.locals) {x0 : Int32} {x1 : Int32} {x2 : Int32} {mm : Mem} {r : Int32} (hf : fX12_both x0 x1 x2 = some r) (hret : ∀ (pc : Nat) (H : Heap) (locs : List Loc) (ls : Array Slot), narrow .int (.int r) = .int r → decode cX12_both pc = .ok (.ireturn, 1) → wS E s mm H locs → W p l e R s m args below meth c H locs 0 0 Q (F0 m pc ls [.int r])) : ∀ (H : Heap) (locs : List Loc) (ls : Array Slot), wS E s mm H locs → lv_has ls 3 [(0, .int x0), (1, .int x1), (2, .int x2)] → W p l e R s m args below meth c H locs 0 0 Q (F0 m 0 ls []) := by
  have hx := X.1
  have hb := X.2.1
  have hR1 := hR.1
  have hR2 := hR.2
  have hRa : 0 ≤ R.frames := by omega
  have hRb : 0 ≤ R.locals := by omega
  unfold fX12_both at hf
  have hj60 : ∀ (s0 : Int32) (H : Heap) (locs : List Loc) (ls : Array Slot), fX12_both_j60 s0 = some r → wS E s mm H locs → lv_has ls 3 [] → W p l e R s m args below meth c H locs 0 0 Q (F0 m 60 ls [.int s0]) := by
    intro s0 H locs ls hf hS hl
    unfold fX12_both_j60 at hf
    cases hf
    exact hret _ _ _ _ rfl dX12_both_60 hS
  have hj38 : ∀ (x0 : Int32) (x1 : Int32) (x2 : Int32) (H : Heap) (locs : List Loc) (ls : Array Slot), fX12_both_j38 x0 x1 x2 = some r → wS E s mm H locs → lv_has ls 3 [(0, .int x0), (1, .int x1), (2, .int x2)] → W p l e R s m args below meth c H locs 0 0 Q (F0 m 38 ls []) := by
    intro x0 x1 x2 H locs ls hf hS hl
    unfold fX12_both_j38 at hf
    refine lv_iload_n hx hb dX12_both_38 rfl (lv_at hl 2 rfl) ?_
    refine lv_if_ne (tgt := 46) hx hb dX12_both_39 (by decide) (fun q1 => ?_) (fun q1 => ?_)
    · have hf := ifn hf q1
      refine lv_iload_n hx hb dX12_both_46 rfl (lv_at hl 0 rfl) ?_
      refine lv_iconst (v := 5) hx hb dX12_both_47 (by decide) ?_
      refine lv_icmp_ne (tgt := 57) hx hb dX12_both_48 (by decide) (fun q2 => ?_) (fun q2 => ?_)
      · have hf := ifn hf q2
        refine lv_iload_n hx hb dX12_both_57 rfl (lv_at hl 1 rfl) ?_
        refine lv_iload_n hx hb dX12_both_58 rfl (lv_at hl 2 rfl) ?_
        obtain ⟨v3, h1, hf⟩ := bs hf
        obtain ⟨h1, h2⟩ := rmI_n h1
        refine lv_irem hx hb dX12_both_59 h1 ?_
        rw [h2]
        exact hj60 v3 H locs ls hf hS (lv_sub hl [] rfl)
      · have hf := ifp hf q2
        refine lv_iload_n hx hb dX12_both_51 rfl (lv_at hl 1 rfl) ?_
        refine lv_iload_n hx hb dX12_both_52 rfl (lv_at hl 2 rfl) ?_
        obtain ⟨v4, h1, hf⟩ := bs hf
        obtain ⟨h1, h2⟩ := dvI_n h1
        refine lv_idiv hx hb dX12_both_53 h1 ?_
        rw [h2]
        refine lv_goto (tgt := 60) hx hb dX12_both_54 (by decide) ?_
        exact hj60 v4 H locs ls hf hS (lv_sub hl [] rfl)
    · have hf := ifp hf q1
      refine lv_iconst (v := 0) hx hb dX12_both_42 (by decide) ?_
      refine lv_goto (tgt := 60) hx hb dX12_both_43 (by decide) ?_
      exact hj60 0 H locs ls hf hS (lv_sub hl [] rfl)
  have hj90 : ∀ (s0 : Int32) (H : Heap) (locs : List Loc) (ls : Array Slot), fX12_both_j90 s0 = some r → wS E s mm H locs → lv_has ls 3 [] → W p l e R s m args below meth c H locs 0 0 Q (F0 m 90 ls [.int s0]) := by
    intro s0 H locs ls hf hS hl
    unfold fX12_both_j90 at hf
    cases hf
    exact hret _ _ _ _ rfl dX12_both_90 hS
  have hj82 : ∀ (x1 : Int32) (x2 : Int32) (s0 : Int32) (s1 : Int32) (H : Heap) (locs : List Loc) (ls : Array Slot), fX12_both_j82 x1 x2 s0 s1 = some r → wS E s mm H locs → lv_has ls 3 [(1, .int x1), (2, .int x2)] → W p l e R s m args below meth c H locs 0 0 Q (F0 m 82 ls [.int s1, .int s0]) := by
    intro x1 x2 s0 s1 H locs ls hf hS hl
    unfold fX12_both_j82 at hf
    refine lv_icmp_ne (tgt := 89) hx hb dX12_both_82 (by decide) (fun q5 => ?_) (fun q5 => ?_)
    · have hf := ifn hf q5
      refine lv_iload_n hx hb dX12_both_89 rfl (lv_at hl 1 rfl) ?_
      exact hj90 x2 H locs ls hf hS (lv_sub hl [] rfl)
    · have hf := ifp hf q5
      refine lv_iload_n hx hb dX12_both_85 rfl (lv_at hl 0 rfl) ?_
      refine lv_goto (tgt := 90) hx hb dX12_both_86 (by decide) ?_
      exact hj90 x1 H locs ls hf hS (lv_sub hl [] rfl)
  have hj71 : ∀ (x0 : Int32) (x1 : Int32) (x2 : Int32) (s0 : Int32) (H : Heap) (locs : List Loc) (ls : Array Slot), fX12_both_j71 x0 x1 x2 s0 = some r → wS E s mm H locs → lv_has ls 3 [(0, .int x0), (1, .int x1), (2, .int x2)] → W p l e R s m args below meth c H locs 0 0 Q (F0 m 71 ls [.int s0]) := by
    intro x0 x1 x2 s0 H locs ls hf hS hl
    unfold fX12_both_j71 at hf
    refine lv_iload_n hx hb dX12_both_71 rfl (lv_at hl 0 rfl) ?_
    refine lv_bipush (v := 6) hx hb dX12_both_72 (by decide) ?_
    refine lv_icmp_ne (tgt := 81) hx hb dX12_both_74 (by decide) (fun q6 => ?_) (fun q6 => ?_)
    · have hf := ifn hf q6
      refine lv_iconst (v := 0) hx hb dX12_both_81 (by decide) ?_
      exact hj82 x1 x2 s0 0 H locs ls hf hS (lv_sub hl [1, 2] rfl)
    · have hf := ifp hf q6
      refine lv_iconst (v := 1) hx hb dX12_both_77 (by decide) ?_
      refine lv_goto (tgt := 82) hx hb dX12_both_78 (by decide) ?_
      exact hj82 x1 x2 s0 1 H locs ls hf hS (lv_sub hl [1, 2] rfl)
  intro H locs ls hS hl
  refine lv_iload_n hx hb dX12_both_0 rfl (lv_at hl 0 rfl) ?_
  refine lv_iconst (v := 2) hx hb dX12_both_1 (by decide) ?_
  refine lv_icmp_ne (tgt := 9) hx hb dX12_both_2 (by decide) (fun q7 => ?_) (fun q7 => ?_)
  · have hf := ifn hf q7
    refine lv_iload_n hx hb dX12_both_9 rfl (lv_at hl 0 rfl) ?_
    refine lv_iconst (v := 3) hx hb dX12_both_10 (by decide) ?_
    refine lv_icmp_ne (tgt := 18) hx hb dX12_both_11 (by decide) (fun q8 => ?_) (fun q8 => ?_)
    · have hf := ifn hf q8
      refine lv_iload_n hx hb dX12_both_18 rfl (lv_at hl 0 rfl) ?_
      refine lv_iconst (v := 4) hx hb dX12_both_19 (by decide) ?_
      refine lv_icmp_ne (tgt := 27) hx hb dX12_both_20 (by decide) (fun q9 => ?_) (fun q9 => ?_)
      · have hf := ifn hf q9
        refine lv_iload_n hx hb dX12_both_27 rfl (lv_at hl 0 rfl) ?_
        refine lv_iconst (v := 5) hx hb dX12_both_28 (by decide) ?_
        refine lv_icmp_eq (tgt := 38) hx hb dX12_both_29 (by decide) (fun q10 => ?_) (fun q10 => ?_)
        · have hf := ifp hf q10
          exact hj38 x0 x1 x2 H locs ls hf hS hl
        · have hf := ifn hf q10
          refine lv_iload_n hx hb dX12_both_32 rfl (lv_at hl 0 rfl) ?_
          refine lv_bipush (v := 8) hx hb dX12_both_33 (by decide) ?_
          refine lv_icmp_ne (tgt := 61) hx hb dX12_both_35 (by decide) (fun q11 => ?_) (fun q11 => ?_)
          · have hf := ifn hf q11
            refine lv_iload_n hx hb dX12_both_61 rfl (lv_at hl 1 rfl) ?_
            refine lv_iload_n hx hb dX12_both_62 rfl (lv_at hl 2 rfl) ?_
            refine lv_icmp_ge (tgt := 70) hx hb dX12_both_63 (by decide) (fun q12 => ?_) (fun q12 => ?_)
            · have hf := ifp hf q12
              refine lv_iconst (v := 0) hx hb dX12_both_70 (by decide) ?_
              exact hj71 x0 x1 x2 0 H locs ls hf hS hl
            · have hf := ifn hf q12
              refine lv_iconst (v := 1) hx hb dX12_both_66 (by decide) ?_
              refine lv_goto (tgt := 71) hx hb dX12_both_67 (by decide) ?_
              exact hj71 x0 x1 x2 1 H locs ls hf hS hl
          · have hf := ifp hf q11
            exact hj38 x0 x1 x2 H locs ls hf hS hl
      · have hf := ifp hf q9
        refine lv_iload_n hx hb dX12_both_23 rfl (lv_at hl 1 rfl) ?_
        refine lv_iload_n hx hb dX12_both_24 rfl (lv_at hl 2 rfl) ?_
        refine lv_imul hx hb dX12_both_25 ?_
        cases hf
        exact hret _ _ _ _ rfl dX12_both_26 hS
    · have hf := ifp hf q8
      refine lv_iload_n hx hb dX12_both_14 rfl (lv_at hl 1 rfl) ?_
      refine lv_iload_n hx hb dX12_both_15 rfl (lv_at hl 2 rfl) ?_
      refine lv_isub hx hb dX12_both_16 ?_
      cases hf
      exact hret _ _ _ _ rfl dX12_both_17 hS
  · have hf := ifp hf q7
    refine lv_iload_n hx hb dX12_both_5 rfl (lv_at hl 1 rfl) ?_
    refine lv_iload_n hx hb dX12_both_6 rfl (lv_at hl 2 rfl) ?_
    refine lv_iadd hx hb dX12_both_7 ?_
    cases hf
    exact hret _ _ _ _ rfl dX12_both_8 hS
set_option maxRecDepth 100000 in
theorem cX12_both_ok {l : Launch} {E : Ev} {x0 : Int32} {x1 : Int32} {x2 : Int32} {mm : Mem} {r : Int32} (hf : fX12_both x0 x1 x2 = some r) : CtI l yX12_both cX12_both 3 (some .int) (0) (0) E [.int x0, .int x1, .int x2] mm r mm := by
  refine Met.ofW (cc := cX12_both) (maxL := 3) (ret := (some .int)) (by decide) rfl ?_
  intro p e s m args below meth c s₁ B hml hv
  obtain ⟨rfl, X, hS, hr, hlocks⟩ := am_in B hv
  refine am_entry (Nat.le_of_ble_eq_true rfl) (fun ls hl => ?_)
  exact wX12_both X hml ⟨Nat.le_refl _, Nat.le_refl _⟩ hf (fun pc H locs ls hn hd hS => am_ri X hS hr hn hd hlocks) _ _ ls hS hl
set_option maxHeartbeats 4000000 in
set_option maxRecDepth 100000 in
theorem wX12_valueNow {p : Program} {l : Launch} {e : Env} {R : Room} {s : State} {m : MethodId} {args : Array Value} {below : List Frame} {meth : Method} {c : Code} {Q : State → Prop} {E : Ev} (X : Cx p s m args c cX12_valueNow RX12 E) (hml : c.maxLocals = 4) (hR : 1 ≤ R.frames ∧ 22 ≤ R.locals) {x0 : Nat} {mm : Mem} {r : Int32} {mm1 : Mem} (hf : fX12_valueNow (eS E) x0 mm = some (r, mm1)) (hret : ∀ (pc : Nat) (H : Heap) (locs : List Loc) (ls : Array Slot), narrow .int (.int r) = .int r → decode cX12_valueNow pc = .ok (.ireturn, 1) → wS E s mm1 H locs → W p l e R s m args below meth c H locs 0 0 Q (F0 m pc ls [.int r])) : ∀ (H : Heap) (locs : List Loc) (ls : Array Slot), wS E s mm H locs → lv_has ls 4 [(0, .ref x0)] → W p l e R s m args below meth c H locs 0 0 Q (F0 m 0 ls []) := by
  have hx := X.1
  have hb := X.2.1
  have hR1 := hR.1
  have hR2 := hR.2
  have hRa : 1 ≤ R.frames := by omega
  have hRb : 22 ≤ R.locals := by omega
  unfold fX12_valueNow at hf
  have hj95 : ∀ (x0 : Nat) (mm : Mem) (H : Heap) (locs : List Loc) (ls : Array Slot), fX12_valueNow_j95 (eS E) x0 mm = some (r, mm1) → wS E s mm H locs → lv_has ls 4 [(0, .ref x0)] → W p l e R s m args below meth c H locs 0 0 Q (F0 m 95 ls []) := by
    intro x0 mm H locs ls hf hS hl
    unfold fX12_valueNow_j95 at hf
    refine lv_aload_n hx hb dX12_valueNow_95 rfl (lv_at hl 0 rfl) ?_
    obtain ⟨a1, h1, hf⟩ := bs hf
    refine am_gr X hS fl_X12_47 rfl h1 dX12_valueNow_96 ?_
    refine lv_iconst (v := 0) hx hb dX12_valueNow_99 (by decide) ?_
    obtain ⟨v2, h1, hf⟩ := bs hf
    refine am_ald X hS h1 dX12_valueNow_100 ?_
    cases hf
    exact hret _ _ _ _ rfl dX12_valueNow_101 hS
  intro H locs ls hS hl
  refine lv_iconst (v := 0) hx hb dX12_valueNow_0 (by decide) ?_
  refine lv_topi (fun x1_3 e1 => ?_)
  have hf := lt1_n e1 hf
  refine lv_istore_n (lv' := [(1, .int x1_3), (0, .ref x0)]) hx hb dX12_valueNow_1 rfl hl (by decide) rfl (fun ls hl => ?_)
  refine lv_iconst (v := 0) hx hb dX12_valueNow_2 (by decide) ?_
  refine lv_topi (fun x2_4 e1 => ?_)
  have hf := lt1_n e1 hf
  refine lv_istore_n (lv' := [(2, .int x2_4), (1, .int x1_3), (0, .ref x0)]) hx hb dX12_valueNow_3 rfl hl (by decide) rfl (fun ls hl => ?_)
  obtain ⟨ex4, hl4, hk4⟩ := bs hf
  refine loop_W (P := fun st => ∀ (H : Heap) (locs : List Loc) (ls : Array Slot), wS E s st.2.2 H locs → lv_has ls 4 [(0, .ref x0), (1, .int st.1), (2, .int st.2.1)] → W p l e R s m args below meth c H locs 0 0 Q (F0 m 4 ls [])) (ex := ex4) ?_ FU _ hl4 H locs ls hS (lv_sub hl [2, 1, 0] rfl)
  intro st y4 hf hyL4 hyR4 H locs ls hS hl
  obtain ⟨x1, x2, mm⟩ := st
  have hf : fX12_valueNow_b4 (eS E) x0 x1 x2 mm = some y4 := hf
  have hS : wS E s mm H locs := hS
  have hl : lv_has ls 4 [(0, .ref x0), (1, .int x1), (2, .int x2)] := hl
  unfold fX12_valueNow_b4 at hf
  have hj89 : ∀ (x1 : Int32) (x2 : Int32) (mm : Mem) (H : Heap) (locs : List Loc) (ls : Array Slot), fX12_valueNow_j89 (eS E) x0 x1 x2 mm = some y4 → wS E s mm H locs → lv_has ls 4 [(0, .ref x0), (1, .int x1), (2, .int x2)] → W p l e R s m args below meth c H locs 0 0 Q (F0 m 89 ls []) := by
    intro x1 x2 mm H locs ls hf hS hl
    unfold fX12_valueNow_j89 at hf
    obtain ⟨x2_5, e1⟩ : ∃ z : Int32, z = x2 + 1 := ⟨_, rfl⟩
    have hf := lt1_n e1 hf
    refine lv_iinc (v := x2_5) (lv' := [(2, .int x2_5), (0, .ref x0), (1, .int x1)]) hx hb dX12_valueNow_89 hl (k := 2) rfl (by rw [e1]; rfl) (by decide) rfl (fun ls hl => ?_)
    refine lv_goto (tgt := 4) hx hb dX12_valueNow_92 (by decide) ?_
    exact hyL4 _ (Option.some.inj hf).symm H locs ls hS (lv_sub hl [1, 2, 0] rfl)
  have hj53 : ∀ (x1 : Int32) (x2 : Int32) (s0 : Nat) (s1 : Int32) (s2 : Int32) (mm : Mem) (H : Heap) (locs : List Loc) (ls : Array Slot), fX12_valueNow_j53 (eS E) x0 x1 x2 s0 s1 s2 mm = some y4 → wS E s mm H locs → lv_has ls 4 [(0, .ref x0), (1, .int x1), (2, .int x2)] → W p l e R s m args below meth c H locs 0 0 Q (F0 m 53 ls [.int s2, .int s1, .ref s0]) := by
    intro x1 x2 s0 s1 s2 mm H locs ls hf hS hl
    unfold fX12_valueNow_j53 at hf
    obtain ⟨m6, h1, hf⟩ := bs hf
    refine am_ast X hS h1 dX12_valueNow_53 (fun H locs hS => ?_)
    obtain ⟨x1_7, e1⟩ : ∃ z : Int32, z = x1 + 1 := ⟨_, rfl⟩
    have hf := lt1_n e1 hf
    refine lv_iinc (v := x1_7) (lv' := [(1, .int x1_7), (0, .ref x0), (2, .int x2)]) hx hb dX12_valueNow_54 hl (k := 1) rfl (by rw [e1]; rfl) (by decide) rfl (fun ls hl => ?_)
    refine lv_goto (tgt := 89) hx hb dX12_valueNow_57 (by decide) ?_
    exact hj89 x1_7 x2 m6 H locs ls hf hS (lv_sub hl [1, 0, 2] rfl)
  refine lv_iload_n hx hb dX12_valueNow_4 rfl (lv_at hl 2 rfl) ?_
  refine lv_aload_n hx hb dX12_valueNow_5 rfl (lv_at hl 0 rfl) ?_
  obtain ⟨v8, h1, hf⟩ := bs hf
  refine am_gi X hS fl_X12_163 rfl h1 dX12_valueNow_6 ?_
  refine lv_icmp_ge (tgt := 95) hx hb dX12_valueNow_9 (by decide) (fun q9 => ?_) (fun q9 => ?_)
  · have hf := ifp hf q9
    obtain rfl : mm = ex4 := hyR4 _ (Option.some.inj hf).symm
    exact hj95 x0 mm H locs ls hk4 hS (lv_sub hl [0] rfl)
  · have hf := ifn hf q9
    refine lv_aload_n hx hb dX12_valueNow_12 rfl (lv_at hl 0 rfl) ?_
    obtain ⟨a10, h1, hf⟩ := bs hf
    refine am_gr X hS fl_X12_41 rfl h1 dX12_valueNow_13 ?_
    refine lv_iload_n hx hb dX12_valueNow_16 rfl (lv_at hl 2 rfl) ?_
    obtain ⟨v11, h1, hf⟩ := bs hf
    refine am_ald X hS h1 dX12_valueNow_17 ?_
    refine lv_topi (fun x3_12 e1 => ?_)
    have hf := lt1_n e1 hf
    refine lv_istore_n (lv' := [(3, .int x3_12), (0, .ref x0), (1, .int x1), (2, .int x2)]) hx hb dX12_valueNow_18 rfl hl (by decide) rfl (fun ls hl => ?_)
    refine lv_iload_n hx hb dX12_valueNow_19 rfl (lv_at hl 0 rfl) ?_
    refine lv_iconst (v := 1) hx hb dX12_valueNow_20 (by decide) ?_
    refine lv_icmp_gt (tgt := 60) hx hb dX12_valueNow_21 (by decide) (fun q13 => ?_) (fun q13 => ?_)
    · have hf := ifp hf q13
      obtain ⟨x1_14, e1⟩ : ∃ z : Int32, z = x1 + (-1) := ⟨_, rfl⟩
      have hf := lt1_n e1 hf
      refine lv_iinc (v := x1_14) (lv' := [(1, .int x1_14), (3, .int x3_12), (0, .ref x0), (2, .int x2)]) hx hb dX12_valueNow_60 hl (k := 2) rfl (by rw [e1]; rfl) (by decide) rfl (fun ls hl => ?_)
      refine lv_aload_n hx hb dX12_valueNow_63 rfl (lv_at hl 2 rfl) ?_
      obtain ⟨a15, h1, hf⟩ := bs hf
      refine am_gr X hS fl_X12_47 rfl h1 dX12_valueNow_64 ?_
      refine lv_iload_n hx hb dX12_valueNow_67 rfl (lv_at hl 0 rfl) ?_
      refine lv_iconst (v := 1) hx hb dX12_valueNow_68 (by decide) ?_
      refine lv_isub hx hb dX12_valueNow_69 ?_
      refine lv_iload_n hx hb dX12_valueNow_70 rfl (lv_at hl 1 rfl) ?_
      refine lv_aload_n hx hb dX12_valueNow_71 rfl (lv_at hl 2 rfl) ?_
      obtain ⟨a16, h1, hf⟩ := bs hf
      refine am_gr X hS fl_X12_47 rfl h1 dX12_valueNow_72 ?_
      refine lv_iload_n hx hb dX12_valueNow_75 rfl (lv_at hl 0 rfl) ?_
      refine lv_iconst (v := 1) hx hb dX12_valueNow_76 (by decide) ?_
      refine lv_isub hx hb dX12_valueNow_77 ?_
      obtain ⟨v17, h1, hf⟩ := bs hf
      refine am_ald X hS h1 dX12_valueNow_78 ?_
      refine lv_aload_n hx hb dX12_valueNow_79 rfl (lv_at hl 2 rfl) ?_
      obtain ⟨a18, h1, hf⟩ := bs hf
      refine am_gr X hS fl_X12_47 rfl h1 dX12_valueNow_80 ?_
      refine lv_iload_n hx hb dX12_valueNow_83 rfl (lv_at hl 0 rfl) ?_
      obtain ⟨v19, h1, hf⟩ := bs hf
      refine am_ald X hS h1 dX12_valueNow_84 ?_
      obtain ⟨v20, h1, hf⟩ := bs hf
      refine am_endi hS (am_runS (As := [.int x3_12, .int v17, .int v19]) X (hml.trans hl.1.symm) hS (cX12_both_ok (l := l) (E := E) h1) ms_X12_265 ⟨Nat.le_trans (by decide) hRa, Nat.le_trans (by decide) hRb⟩ ⟨Nat.zero_le _, Nat.zero_le _⟩ rfl rfl (Nat.le_of_ble_eq_true rfl) dX12_valueNow_85) (fun H locs hS => ?_)
      obtain ⟨m21, h1, hf⟩ := bs hf
      refine am_ast X hS h1 dX12_valueNow_88 (fun H locs hS => ?_)
      exact hj89 x1_14 x2 m21 H locs ls hf hS (lv_sub hl [2, 0, 3] rfl)
    · have hf := ifn hf q13
      refine lv_aload_n hx hb dX12_valueNow_24 rfl (lv_at hl 1 rfl) ?_
      obtain ⟨a22, h1, hf⟩ := bs hf
      refine am_gr X hS fl_X12_47 rfl h1 dX12_valueNow_25 ?_
      refine lv_iload_n hx hb dX12_valueNow_28 rfl (lv_at hl 2 rfl) ?_
      refine lv_iload_n hx hb dX12_valueNow_29 rfl (lv_at hl 0 rfl) ?_
      refine lv_if_ne (tgt := 42) hx hb dX12_valueNow_30 (by decide) (fun q23 => ?_) (fun q23 => ?_)
      · have hf := ifn hf q23
        refine lv_aload_n hx hb dX12_valueNow_42 rfl (lv_at hl 1 rfl) ?_
        obtain ⟨a24, h1, hf⟩ := bs hf
        refine am_gr X hS fl_X12_50 rfl h1 dX12_valueNow_43 ?_
        refine lv_aload_n hx hb dX12_valueNow_46 rfl (lv_at hl 1 rfl) ?_
        obtain ⟨a25, h1, hf⟩ := bs hf
        refine am_gr X hS fl_X12_44 rfl h1 dX12_valueNow_47 ?_
        refine lv_iload_n hx hb dX12_valueNow_50 rfl (lv_at hl 3 rfl) ?_
        obtain ⟨v26, h1, hf⟩ := bs hf
        refine am_ald X hS h1 dX12_valueNow_51 ?_
        obtain ⟨v27, h1, hf⟩ := bs hf
        refine am_ald X hS h1 dX12_valueNow_52 ?_
        exact hj53 x1 x2 a22 x1 v27 mm H locs ls hf hS (lv_sub hl [1, 2, 3] rfl)
      · have hf := ifp hf q23
        refine lv_aload_n hx hb dX12_valueNow_33 rfl (lv_at hl 1 rfl) ?_
        obtain ⟨a28, h1, hf⟩ := bs hf
        refine am_gr X hS fl_X12_44 rfl h1 dX12_valueNow_34 ?_
        refine lv_iload_n hx hb dX12_valueNow_37 rfl (lv_at hl 3 rfl) ?_
        obtain ⟨v29, h1, hf⟩ := bs hf
        refine am_ald X hS h1 dX12_valueNow_38 ?_
        refine lv_goto (tgt := 53) hx hb dX12_valueNow_39 (by decide) ?_
        exact hj53 x1 x2 a22 x1 v29 mm H locs ls hf hS (lv_sub hl [1, 2, 3] rfl)
set_option maxRecDepth 100000 in
theorem cX12_valueNow_ok {l : Launch} {E : Ev} {x0 : Nat} {mm : Mem} {r : Int32} {mm1 : Mem} (hf : fX12_valueNow (eS E) x0 mm = some (r, mm1)) : CtI l yX12_valueNow cX12_valueNow 4 (some .int) (1) (22) E [.ref x0] mm r mm1 := by
  refine Met.ofW (cc := cX12_valueNow) (maxL := 4) (ret := (some .int)) (by decide) rfl ?_
  intro p e s m args below meth c s₁ B hml hv
  obtain ⟨rfl, X, hS, hr, hlocks⟩ := am_in B hv
  refine am_entry (Nat.le_of_ble_eq_true rfl) (fun ls hl => ?_)
  exact wX12_valueNow X hml ⟨Nat.le_refl _, Nat.le_refl _⟩ hf (fun pc H locs ls hn hd hS => am_ri X hS hr hn hd hlocks) _ _ ls hS hl
set_option maxHeartbeats 4000000 in
set_option maxRecDepth 100000 in
theorem wX12_turnsNow {p : Program} {l : Launch} {e : Env} {R : Room} {s : State} {m : MethodId} {args : Array Value} {below : List Frame} {meth : Method} {c : Code} {Q : State → Prop} {E : Ev} (X : Cx p s m args c cX12_turnsNow RX12 E) (hml : c.maxLocals = 2) (hR : 2 ≤ R.frames ∧ 45 ≤ R.locals) {x0 : Nat} {mm : Mem} {r : Int32} {mm1 : Mem} (hf : fX12_turnsNow (eS E) x0 mm = some (r, mm1)) (hret : ∀ (pc : Nat) (H : Heap) (locs : List Loc) (ls : Array Slot), narrow .int (.int r) = .int r → decode cX12_turnsNow pc = .ok (.ireturn, 1) → wS E s mm1 H locs → W p l e R s m args below meth c H locs 0 0 Q (F0 m pc ls [.int r])) : ∀ (H : Heap) (locs : List Loc) (ls : Array Slot), wS E s mm H locs → lv_has ls 2 [(0, .ref x0)] → W p l e R s m args below meth c H locs 0 0 Q (F0 m 0 ls []) := by
  have hx := X.1
  have hb := X.2.1
  have hR1 := hR.1
  have hR2 := hR.2
  have hRa : 2 ≤ R.frames := by omega
  have hRb : 45 ≤ R.locals := by omega
  unfold fX12_turnsNow at hf
  have hj56 : ∀ (s0 : Int32) (mm : Mem) (H : Heap) (locs : List Loc) (ls : Array Slot), fX12_turnsNow_j56 (eS E) s0 mm = some (r, mm1) → wS E s mm H locs → lv_has ls 2 [] → W p l e R s m args below meth c H locs 0 0 Q (F0 m 56 ls [.int s0]) := by
    intro s0 mm H locs ls hf hS hl
    unfold fX12_turnsNow_j56 at hf
    cases hf
    exact hret _ _ _ _ rfl dX12_turnsNow_56 hS
  have hj29 : ∀ (x0 : Nat) (s0 : Int32) (mm : Mem) (H : Heap) (locs : List Loc) (ls : Array Slot), fX12_turnsNow_j29 (eS E) x0 s0 mm = some (r, mm1) → wS E s mm H locs → lv_has ls 2 [(0, .ref x0)] → W p l e R s m args below meth c H locs 0 0 Q (F0 m 29 ls [.int s0]) := by
    intro x0 s0 mm H locs ls hf hS hl
    unfold fX12_turnsNow_j29 at hf
    refine lv_topi (fun x1_1 e1 => ?_)
    have hf := lt1_n e1 hf
    refine lv_istore_n (lv' := [(1, .int x1_1), (0, .ref x0)]) hx hb dX12_turnsNow_29 rfl hl (by decide) rfl (fun ls hl => ?_)
    refine lv_iload_n hx hb dX12_turnsNow_30 rfl (lv_at hl 0 rfl) ?_
    refine lv_if_ge (tgt := 38) hx hb dX12_turnsNow_31 (by decide) (fun q2 => ?_) (fun q2 => ?_)
    · have hf := ifp hf q2
      refine lv_iload_n hx hb dX12_turnsNow_38 rfl (lv_at hl 0 rfl) ?_
      refine lv_aload_n hx hb dX12_turnsNow_39 rfl (lv_at hl 1 rfl) ?_
      obtain ⟨v3, h1, hf⟩ := bs hf
      refine am_gi X hS fl_X12_156 rfl h1 dX12_turnsNow_40 ?_
      refine lv_icmp_lt (tgt := 55) hx hb dX12_turnsNow_43 (by decide) (fun q4 => ?_) (fun q4 => ?_)
      · have hf := ifp hf q4
        refine lv_iload_n hx hb dX12_turnsNow_55 rfl (lv_at hl 0 rfl) ?_
        exact hj56 x1_1 mm H locs ls hf hS (lv_sub hl [] rfl)
      · have hf := ifn hf q4
        refine lv_aload_n hx hb dX12_turnsNow_46 rfl (lv_at hl 1 rfl) ?_
        obtain ⟨v5, h1, hf⟩ := bs hf
        refine am_gi X hS fl_X12_156 rfl h1 dX12_turnsNow_47 ?_
        refine lv_iconst (v := 1) hx hb dX12_turnsNow_50 (by decide) ?_
        refine lv_isub hx hb dX12_turnsNow_51 ?_
        refine lv_goto (tgt := 56) hx hb dX12_turnsNow_52 (by decide) ?_
        exact hj56 (v5 - 1) mm H locs ls hf hS (lv_sub hl [] rfl)
    · have hf := ifn hf q2
      refine lv_iconst (v := 0) hx hb dX12_turnsNow_34 (by decide) ?_
      refine lv_goto (tgt := 56) hx hb dX12_turnsNow_35 (by decide) ?_
      exact hj56 0 mm H locs ls hf hS (lv_sub hl [] rfl)
  intro H locs ls hS hl
  refine lv_aload_n hx hb dX12_turnsNow_0 rfl (lv_at hl 0 rfl) ?_
  obtain ⟨v6, h1, hf⟩ := bs hf
  refine am_gi X hS fl_X12_163 rfl h1 dX12_turnsNow_1 ?_
  refine lv_if_ne (tgt := 25) hx hb dX12_turnsNow_4 (by decide) (fun q7 => ?_) (fun q7 => ?_)
  · have hf := ifn hf q7
    refine lv_aload_n hx hb dX12_turnsNow_25 rfl (lv_at hl 0 rfl) ?_
    obtain ⟨u0, h0, hf⟩ := bs hf
    obtain ⟨_, hrc⟩ := isO_n h0
    obtain ⟨v8, m9, h1, hf⟩ := bs2 hf
    refine am_endi hS (am_runV (As := []) X (hml.trans hl.1.symm) hS (cX12_valueNow_ok (l := l) (E := E) h1) mv_X12_269 hrc rfl ⟨Nat.le_trans (by decide) hRa, Nat.le_trans (by decide) hRb⟩ ⟨Nat.zero_le _, Nat.zero_le _⟩ rfl rfl (Nat.le_of_ble_eq_true rfl) dX12_turnsNow_26) (fun H locs hS => ?_)
    exact hj29 x0 v8 m9 H locs ls hf hS hl
  · have hf := ifp hf q7
    refine lv_aload_n hx hb dX12_turnsNow_7 rfl (lv_at hl 0 rfl) ?_
    obtain ⟨a10, h1, hf⟩ := bs hf
    refine am_gr X hS fl_X12_50 rfl h1 dX12_turnsNow_8 ?_
    refine lv_iconst (v := 0) hx hb dX12_turnsNow_11 (by decide) ?_
    obtain ⟨v11, h1, hf⟩ := bs hf
    refine am_ald X hS h1 dX12_turnsNow_12 ?_
    refine lv_iconst (v := 1) hx hb dX12_turnsNow_13 (by decide) ?_
    refine lv_iadd hx hb dX12_turnsNow_14 ?_
    refine lv_aload_n hx hb dX12_turnsNow_15 rfl (lv_at hl 0 rfl) ?_
    obtain ⟨a12, h1, hf⟩ := bs hf
    refine am_gr X hS fl_X12_50 rfl h1 dX12_turnsNow_16 ?_
    refine lv_iconst (v := 2) hx hb dX12_turnsNow_19 (by decide) ?_
    obtain ⟨v13, h1, hf⟩ := bs hf
    refine am_ald X hS h1 dX12_turnsNow_20 ?_
    refine lv_imul hx hb dX12_turnsNow_21 ?_
    refine lv_goto (tgt := 29) hx hb dX12_turnsNow_22 (by decide) ?_
    exact hj29 x0 ((v11 + 1) * v13) mm H locs ls hf hS hl
set_option maxRecDepth 100000 in
theorem cX12_turnsNow_ok {l : Launch} {E : Ev} {x0 : Nat} {mm : Mem} {r : Int32} {mm1 : Mem} (hf : fX12_turnsNow (eS E) x0 mm = some (r, mm1)) : CtI l yX12_turnsNow cX12_turnsNow 2 (some .int) (2) (45) E [.ref x0] mm r mm1 := by
  refine Met.ofW (cc := cX12_turnsNow) (maxL := 2) (ret := (some .int)) (by decide) rfl ?_
  intro p e s m args below meth c s₁ B hml hv
  obtain ⟨rfl, X, hS, hr, hlocks⟩ := am_in B hv
  refine am_entry (Nat.le_of_ble_eq_true rfl) (fun ls hl => ?_)
  exact wX12_turnsNow X hml ⟨Nat.le_refl _, Nat.le_refl _⟩ hf (fun pc H locs ls hn hd hS => am_ri X hS hr hn hd hlocks) _ _ ls hS hl
set_option maxHeartbeats 4000000 in
set_option maxRecDepth 100000 in
theorem wX12_tellsStep {p : Program} {l : Launch} {e : Env} {R : Room} {s : State} {m : MethodId} {args : Array Value} {below : List Frame} {meth : Method} {c : Code} {Q : State → Prop} {E : Ev} (X : Cx p s m args c cX12_tellsStep RX12 E) (hml : c.maxLocals = 5) (hR : 1 ≤ R.frames ∧ 20 ≤ R.locals) {x0 : Nat} {x1 : Int32} {x2 : Int32} {x3 : Int32} {x4 : Int32} {mm : Mem} {mm1 : Mem} (hf : fX12_tellsStep (eS E) x0 x1 x2 x3 x4 mm = some mm1) (hret : ∀ (pc : Nat) (H : Heap) (locs : List Loc) (ls : Array Slot), decode cX12_tellsStep pc = .ok (.return_, 1) → wS E s mm1 H locs → W p l e R s m args below meth c H locs 0 0 Q (F0 m pc ls [])) : ∀ (H : Heap) (locs : List Loc) (ls : Array Slot), wS E s mm H locs → lv_has ls 5 [(0, .ref x0), (1, .int x1), (2, .int x2), (3, .int x3), (4, .int x4)] → W p l e R s m args below meth c H locs 0 0 Q (F0 m 0 ls []) := by
  have hx := X.1
  have hb := X.2.1
  have hR1 := hR.1
  have hR2 := hR.2
  have hRa : 1 ≤ R.frames := by omega
  have hRb : 20 ≤ R.locals := by omega
  unfold fX12_tellsStep at hf
  intro H locs ls hS hl
  refine lv_aload_n hx hb dX12_tellsStep_0 rfl (lv_at hl 0 rfl) ?_
  obtain ⟨u0, h0, hf⟩ := bs hf
  obtain ⟨_, hrc⟩ := isO_n h0
  obtain ⟨v1, h1, hf⟩ := bs hf
  refine am_endi hS (am_runV (As := []) X (hml.trans hl.1.symm) hS (cX12_fine_ok (l := l) (E := E) h1) mv_X12_127 hrc rfl ⟨Nat.le_trans (by decide) hRa, Nat.le_trans (by decide) hRb⟩ ⟨Nat.zero_le _, Nat.zero_le _⟩ rfl rfl (Nat.le_of_ble_eq_true rfl) dX12_tellsStep_1) (fun H locs hS => ?_)
  refine lv_if_ne (tgt := 8) hx hb dX12_tellsStep_4 (by decide) (fun q2 => ?_) (fun q2 => ?_)
  · have hf := ifn hf q2
    refine lv_aload_n hx hb dX12_tellsStep_8 rfl (lv_at hl 0 rfl) ?_
    obtain ⟨a3, h1, hf⟩ := bs hf
    refine am_gr X hS fl_X12_53 rfl h1 dX12_tellsStep_9 ?_
    refine lv_aload_n hx hb dX12_tellsStep_12 rfl (lv_at hl 0 rfl) ?_
    obtain ⟨v4, h1, hf⟩ := bs hf
    refine am_gi X hS fl_X12_272 rfl h1 dX12_tellsStep_13 ?_
    refine lv_iload_n hx hb dX12_tellsStep_16 rfl (lv_at hl 1 rfl) ?_
    obtain ⟨m5, h1, hf⟩ := bs hf
    refine am_ast X hS h1 dX12_tellsStep_17 (fun H locs hS => ?_)
    refine lv_aload_n hx hb dX12_tellsStep_18 rfl (lv_at hl 0 rfl) ?_
    obtain ⟨a6, h1, hf⟩ := bs hf
    refine am_gr X hS fl_X12_53 rfl h1 dX12_tellsStep_19 ?_
    refine lv_aload_n hx hb dX12_tellsStep_22 rfl (lv_at hl 0 rfl) ?_
    obtain ⟨v7, h1, hf⟩ := bs hf
    refine am_gi X hS fl_X12_272 rfl h1 dX12_tellsStep_23 ?_
    refine lv_iconst (v := 1) hx hb dX12_tellsStep_26 (by decide) ?_
    refine lv_iadd hx hb dX12_tellsStep_27 ?_
    refine lv_iload_n hx hb dX12_tellsStep_28 rfl (lv_at hl 2 rfl) ?_
    obtain ⟨m8, h1, hf⟩ := bs hf
    refine am_ast X hS h1 dX12_tellsStep_29 (fun H locs hS => ?_)
    refine lv_aload_n hx hb dX12_tellsStep_30 rfl (lv_at hl 0 rfl) ?_
    obtain ⟨a9, h1, hf⟩ := bs hf
    refine am_gr X hS fl_X12_53 rfl h1 dX12_tellsStep_31 ?_
    refine lv_aload_n hx hb dX12_tellsStep_34 rfl (lv_at hl 0 rfl) ?_
    obtain ⟨v10, h1, hf⟩ := bs hf
    refine am_gi X hS fl_X12_272 rfl h1 dX12_tellsStep_35 ?_
    refine lv_iconst (v := 2) hx hb dX12_tellsStep_38 (by decide) ?_
    refine lv_iadd hx hb dX12_tellsStep_39 ?_
    refine lv_iload_n hx hb dX12_tellsStep_40 rfl (lv_at hl 3 rfl) ?_
    obtain ⟨m11, h1, hf⟩ := bs hf
    refine am_ast X hS h1 dX12_tellsStep_41 (fun H locs hS => ?_)
    refine lv_aload_n hx hb dX12_tellsStep_42 rfl (lv_at hl 0 rfl) ?_
    obtain ⟨a12, h1, hf⟩ := bs hf
    refine am_gr X hS fl_X12_53 rfl h1 dX12_tellsStep_43 ?_
    refine lv_aload_n hx hb dX12_tellsStep_46 rfl (lv_at hl 0 rfl) ?_
    obtain ⟨v13, h1, hf⟩ := bs hf
    refine am_gi X hS fl_X12_272 rfl h1 dX12_tellsStep_47 ?_
    refine lv_iconst (v := 3) hx hb dX12_tellsStep_50 (by decide) ?_
    refine lv_iadd hx hb dX12_tellsStep_51 ?_
    refine lv_iload hx hb dX12_tellsStep_52 (lv_at hl 4 rfl) ?_
    obtain ⟨m14, h1, hf⟩ := bs hf
    refine am_ast X hS h1 dX12_tellsStep_54 (fun H locs hS => ?_)
    refine lv_aload_n hx hb dX12_tellsStep_55 rfl (lv_at hl 0 rfl) ?_
    refine lv_dup hx hb dX12_tellsStep_56 rfl ?_
    obtain ⟨v15, h1, hf⟩ := bs hf
    refine am_gi X hS fl_X12_272 rfl h1 dX12_tellsStep_57 ?_
    refine lv_iconst (v := 4) hx hb dX12_tellsStep_60 (by decide) ?_
    refine lv_iadd hx hb dX12_tellsStep_61 ?_
    obtain ⟨m16, h1, hf⟩ := bs hf
    refine am_pi X hS fp_X12_272 rfl h1 dX12_tellsStep_62 (fun H locs hS => ?_)
    cases hf
    exact hret _ _ _ _ dX12_tellsStep_65 hS
  · have hf := ifp hf q2
    cases hf
    exact hret _ _ _ _ dX12_tellsStep_7 hS
set_option maxRecDepth 100000 in
theorem cX12_tellsStep_ok {l : Launch} {E : Ev} {x0 : Nat} {x1 : Int32} {x2 : Int32} {x3 : Int32} {x4 : Int32} {mm : Mem} {mm1 : Mem} (hf : fX12_tellsStep (eS E) x0 x1 x2 x3 x4 mm = some mm1) : CtV l yX12_tellsStep cX12_tellsStep 5 none (1) (20) E [.ref x0, .int x1, .int x2, .int x3, .int x4] mm mm1 := by
  refine Met.ofW (cc := cX12_tellsStep) (maxL := 5) (ret := none) (by decide) rfl ?_
  intro p e s m args below meth c s₁ B hml hv
  obtain ⟨rfl, X, hS, hr, hlocks⟩ := am_in B hv
  refine am_entry (Nat.le_of_ble_eq_true rfl) (fun ls hl => ?_)
  exact wX12_tellsStep X hml ⟨Nat.le_refl _, Nat.le_refl _⟩ hf (fun pc H locs ls hd hS => am_rv X hS hr hd hlocks) _ _ ls hS hl
set_option maxHeartbeats 4000000 in
set_option maxRecDepth 100000 in
theorem wX12_readFellow {p : Program} {l : Launch} {e : Env} {R : Room} {s : State} {m : MethodId} {args : Array Value} {below : List Frame} {meth : Method} {c : Code} {Q : State → Prop} {E : Ev} (X : Cx p s m args c cX12_readFellow RX12 E) (hml : c.maxLocals = 1) (hR : 2 ≤ R.frames ∧ 47 ≤ R.locals) {x0 : Nat} {mm : Mem} {r : Int32} {mm1 : Mem} (hf : fX12_readFellow (eS E) x0 mm = some (r, mm1)) (hret : ∀ (pc : Nat) (H : Heap) (locs : List Loc) (ls : Array Slot), narrow .int (.int r) = .int r → decode cX12_readFellow pc = .ok (.ireturn, 1) → wS E s mm1 H locs → W p l e R s m args below meth c H locs 0 0 Q (F0 m pc ls [.int r])) : ∀ (H : Heap) (locs : List Loc) (ls : Array Slot), wS E s mm H locs → lv_has ls 1 [(0, .ref x0)] → W p l e R s m args below meth c H locs 0 0 Q (F0 m 0 ls []) := by
  have hx := X.1
  have hb := X.2.1
  have hR1 := hR.1
  have hR2 := hR.2
  have hRa : 2 ≤ R.frames := by omega
  have hRb : 47 ≤ R.locals := by omega
  unfold fX12_readFellow at hf
  intro H locs ls hS hl
  refine lv_aload_n hx hb dX12_readFellow_0 rfl (lv_at hl 0 rfl) ?_
  refine lv_iconst (v := 0) hx hb dX12_readFellow_1 (by decide) ?_
  refine lv_aload_n hx hb dX12_readFellow_2 rfl (lv_at hl 0 rfl) ?_
  obtain ⟨v1, h1, hf⟩ := bs hf
  refine am_gi X hS fl_X12_150 rfl h1 dX12_readFellow_3 ?_
  refine lv_iconst (v := 1) hx hb dX12_readFellow_6 (by decide) ?_
  refine lv_isub hx hb dX12_readFellow_7 ?_
  obtain ⟨u0, h0, hf⟩ := bs hf
  obtain ⟨_, hrc⟩ := isO_n h0
  obtain ⟨v2, m3, h1, hf⟩ := bs2 hf
  refine am_endi hS (am_runV (As := [.int 0, .int (v1 - 1)]) X (hml.trans hl.1.symm) hS (cX12_readNumber_ok (l := l) (E := E) h1) mv_X12_186 hrc rfl ⟨Nat.le_trans (by decide) hRa, Nat.le_trans (by decide) hRb⟩ ⟨Nat.zero_le _, Nat.zero_le _⟩ rfl rfl (Nat.le_of_ble_eq_true rfl) dX12_readFellow_8) (fun H locs hS => ?_)
  cases hf
  exact hret _ _ _ _ rfl dX12_readFellow_11 hS
set_option maxRecDepth 100000 in
theorem cX12_readFellow_ok {l : Launch} {E : Ev} {x0 : Nat} {mm : Mem} {r : Int32} {mm1 : Mem} (hf : fX12_readFellow (eS E) x0 mm = some (r, mm1)) : CtI l yX12_readFellow cX12_readFellow 1 (some .int) (2) (47) E [.ref x0] mm r mm1 := by
  refine Met.ofW (cc := cX12_readFellow) (maxL := 1) (ret := (some .int)) (by decide) rfl ?_
  intro p e s m args below meth c s₁ B hml hv
  obtain ⟨rfl, X, hS, hr, hlocks⟩ := am_in B hv
  refine am_entry (Nat.le_of_ble_eq_true rfl) (fun ls hl => ?_)
  exact wX12_readFellow X hml ⟨Nat.le_refl _, Nat.le_refl _⟩ hf (fun pc H locs ls hn hd hS => am_ri X hS hr hn hd hlocks) _ _ ls hS hl
set_option maxHeartbeats 4000000 in
set_option maxRecDepth 100000 in
theorem wX12_take {p : Program} {l : Launch} {e : Env} {R : Room} {s : State} {m : MethodId} {args : Array Value} {below : List Frame} {meth : Method} {c : Code} {Q : State → Prop} {E : Ev} (X : Cx p s m args c cX12_take RX12 E) (hml : c.maxLocals = 1) (hR : 1 ≤ R.frames ∧ 24 ≤ R.locals) {x0 : Nat} {mm : Mem} {mm1 : Mem} (hf : fX12_take (eS E) x0 mm = some mm1) (hret : ∀ (pc : Nat) (H : Heap) (locs : List Loc) (ls : Array Slot), decode cX12_take pc = .ok (.return_, 1) → wS E s mm1 H locs → W p l e R s m args below meth c H locs 0 0 Q (F0 m pc ls [])) : ∀ (H : Heap) (locs : List Loc) (ls : Array Slot), wS E s mm H locs → lv_has ls 1 [(0, .ref x0)] → W p l e R s m args below meth c H locs 0 0 Q (F0 m 0 ls []) := by
  have hx := X.1
  have hb := X.2.1
  have hR1 := hR.1
  have hR2 := hR.2
  have hRa : 1 ≤ R.frames := by omega
  have hRb : 24 ≤ R.locals := by omega
  unfold fX12_take at hf
  intro H locs ls hS hl
  refine lv_aload_n hx hb dX12_take_0 rfl (lv_at hl 0 rfl) ?_
  refine lv_aload_n hx hb dX12_take_1 rfl (lv_at hl 0 rfl) ?_
  obtain ⟨a1, h1, hf⟩ := bs hf
  refine am_gr X hS fl_X12_59 rfl h1 dX12_take_2 ?_
  refine lv_aload_n hx hb dX12_take_5 rfl (lv_at hl 0 rfl) ?_
  obtain ⟨a2, h1, hf⟩ := bs hf
  refine am_gr X hS fl_X12_62 rfl h1 dX12_take_6 ?_
  refine lv_sipush (v := 175) hx hb dX12_take_9 (by decide) ?_
  obtain ⟨u0, h0, hf⟩ := bs hf
  obtain ⟨_, hrc⟩ := isO_n h0
  obtain ⟨m3, h1, hf⟩ := bs hf
  refine am_endv hS (am_runV (As := [.ref a1, .ref a2, .int 175]) X (hml.trans hl.1.symm) hS (cX12_copies_ok (l := l) (E := E) h1) mv_X12_159 hrc rfl ⟨Nat.le_trans (by decide) hRa, Nat.le_trans (by decide) hRb⟩ ⟨Nat.zero_le _, Nat.zero_le _⟩ rfl rfl (Nat.le_of_ble_eq_true rfl) dX12_take_12) (fun H locs hS => ?_)
  cases hf
  exact hret _ _ _ _ dX12_take_15 hS
set_option maxRecDepth 100000 in
theorem cX12_take_ok {l : Launch} {E : Ev} {x0 : Nat} {mm : Mem} {mm1 : Mem} (hf : fX12_take (eS E) x0 mm = some mm1) : CtV l yX12_take cX12_take 1 none (1) (24) E [.ref x0] mm mm1 := by
  refine Met.ofW (cc := cX12_take) (maxL := 1) (ret := none) (by decide) rfl ?_
  intro p e s m args below meth c s₁ B hml hv
  obtain ⟨rfl, X, hS, hr, hlocks⟩ := am_in B hv
  refine am_entry (Nat.le_of_ble_eq_true rfl) (fun ls hl => ?_)
  exact wX12_take X hml ⟨Nat.le_refl _, Nat.le_refl _⟩ hf (fun pc H locs ls hd hS => am_rv X hS hr hd hlocks) _ _ ls hS hl
set_option maxHeartbeats 4000000 in
set_option maxRecDepth 100000 in
theorem wX12_in {p : Program} {l : Launch} {e : Env} {R : Room} {s : State} {m : MethodId} {args : Array Value} {below : List Frame} {meth : Method} {c : Code} {Q : State → Prop} {E : Ev} (X : Cx p s m args c cX12_in RX12 E) (hml : c.maxLocals = 3) (hR : 0 ≤ R.frames ∧ 0 ≤ R.locals) {x0 : Int32} {x1 : Int32} {x2 : Int32} {mm : Mem} {r : Int32} (hf : fX12_in x0 x1 x2 = some r) (hret : ∀ (pc : Nat) (H : Heap) (locs : List Loc) (ls : Array Slot), narrow .int (.int r) = .int r → decode cX12_in pc = .ok (.ireturn, 1) → wS E s mm H locs → W p l e R s m args below meth c H locs 0 0 Q (F0 m pc ls [.int r])) : ∀ (H : Heap) (locs : List Loc) (ls : Array Slot), wS E s mm H locs → lv_has ls 3 [(0, .int x0), (1, .int x1), (2, .int x2)] → W p l e R s m args below meth c H locs 0 0 Q (F0 m 0 ls []) := by
  have hx := X.1
  have hb := X.2.1
  have hR1 := hR.1
  have hR2 := hR.2
  have hRa : 0 ≤ R.frames := by omega
  have hRb : 0 ≤ R.locals := by omega
  unfold fX12_in at hf
  intro H locs ls hS hl
  refine lv_iload_n hx hb dX12_in_0 rfl (lv_at hl 0 rfl) ?_
  refine lv_bipush (v := 7) hx hb dX12_in_1 (by decide) ?_
  refine lv_iload_n hx hb dX12_in_3 rfl (lv_at hl 1 rfl) ?_
  refine lv_imul hx hb dX12_in_4 ?_
  refine lv_iadd hx hb dX12_in_5 ?_
  refine lv_iload_n hx hb dX12_in_6 rfl (lv_at hl 2 rfl) ?_
  refine lv_iadd hx hb dX12_in_7 ?_
  cases hf
  exact hret _ _ _ _ rfl dX12_in_8 hS
set_option maxRecDepth 100000 in
theorem cX12_in_ok {l : Launch} {E : Ev} {x0 : Int32} {x1 : Int32} {x2 : Int32} {mm : Mem} {r : Int32} (hf : fX12_in x0 x1 x2 = some r) : CtI l yX12_in cX12_in 3 (some .int) (0) (0) E [.int x0, .int x1, .int x2] mm r mm := by
  refine Met.ofW (cc := cX12_in) (maxL := 3) (ret := (some .int)) (by decide) rfl ?_
  intro p e s m args below meth c s₁ B hml hv
  obtain ⟨rfl, X, hS, hr, hlocks⟩ := am_in B hv
  refine am_entry (Nat.le_of_ble_eq_true rfl) (fun ls hl => ?_)
  exact wX12_in X hml ⟨Nat.le_refl _, Nat.le_refl _⟩ hf (fun pc H locs ls hn hd hS => am_ri X hS hr hn hd hlocks) _ _ ls hS hl
set_option maxHeartbeats 4000000 in
set_option maxRecDepth 100000 in
theorem wX12_sumOf {p : Program} {l : Launch} {e : Env} {R : Room} {s : State} {m : MethodId} {args : Array Value} {below : List Frame} {meth : Method} {c : Code} {Q : State → Prop} {E : Ev} (X : Cx p s m args c cX12_sumOf RX12 E) (hml : c.maxLocals = 5) (hR : 0 ≤ R.frames ∧ 0 ≤ R.locals) {x0 : Nat} {x1 : Int32} {x2 : Int32} {mm : Mem} {r : Int32} (hf : fX12_sumOf (eS E) x0 x1 x2 mm = some r) (hret : ∀ (pc : Nat) (H : Heap) (locs : List Loc) (ls : Array Slot), narrow .int (.int r) = .int r → decode cX12_sumOf pc = .ok (.ireturn, 1) → wS E s mm H locs → W p l e R s m args below meth c H locs 0 0 Q (F0 m pc ls [.int r])) : ∀ (H : Heap) (locs : List Loc) (ls : Array Slot), wS E s mm H locs → lv_has ls 5 [(0, .ref x0), (1, .int x1), (2, .int x2)] → W p l e R s m args below meth c H locs 0 0 Q (F0 m 0 ls []) := by
  have hx := X.1
  have hb := X.2.1
  have hR1 := hR.1
  have hR2 := hR.2
  have hRa : 0 ≤ R.frames := by omega
  have hRb : 0 ≤ R.locals := by omega
  unfold fX12_sumOf at hf
  have hj29 : ∀ (x3 : Int32) (H : Heap) (locs : List Loc) (ls : Array Slot), fX12_sumOf_j29 (eS E) x3 mm = some r → wS E s mm H locs → lv_has ls 5 [(3, .int x3)] → W p l e R s m args below meth c H locs 0 0 Q (F0 m 29 ls []) := by
    intro x3 H locs ls hf hS hl
    unfold fX12_sumOf_j29 at hf
    refine lv_iload_n hx hb dX12_sumOf_29 rfl (lv_at hl 0 rfl) ?_
    cases hf
    exact hret _ _ _ _ rfl dX12_sumOf_30 hS
  intro H locs ls hS hl
  refine lv_iconst (v := 0) hx hb dX12_sumOf_0 (by decide) ?_
  refine lv_topi (fun x3_1 e1 => ?_)
  have hf := lt1_n e1 hf
  refine lv_istore_n (lv' := [(3, .int x3_1), (0, .ref x0), (1, .int x1), (2, .int x2)]) hx hb dX12_sumOf_1 rfl hl (by decide) rfl (fun ls hl => ?_)
  refine lv_iconst (v := 0) hx hb dX12_sumOf_2 (by decide) ?_
  refine lv_topi (fun x4_2 e1 => ?_)
  have hf := lt1_n e1 hf
  refine lv_istore (lv' := [(4, .int x4_2), (3, .int x3_1), (0, .ref x0), (1, .int x1), (2, .int x2)]) hx hb dX12_sumOf_3 hl (by decide) rfl (fun ls hl => ?_)
  obtain ⟨ex5, hl5, hk5⟩ := bs hf
  refine loop_W (P := fun st => ∀ (H : Heap) (locs : List Loc) (ls : Array Slot), wS E s mm H locs → lv_has ls 5 [(0, .ref x0), (1, .int x1), (2, .int x2), (3, .int st.1), (4, .int st.2)] → W p l e R s m args below meth c H locs 0 0 Q (F0 m 5 ls [])) (ex := ex5) ?_ FU _ hl5 H locs ls hS (lv_sub hl [2, 3, 4, 1, 0] rfl)
  intro st y5 hf hyL5 hyR5 H locs ls hS hl
  obtain ⟨x3, x4⟩ := st
  have hf : fX12_sumOf_b5 (eS E) x0 x1 x2 x3 x4 mm = some y5 := hf
  have hS : wS E s mm H locs := hS
  have hl : lv_has ls 5 [(0, .ref x0), (1, .int x1), (2, .int x2), (3, .int x3), (4, .int x4)] := hl
  unfold fX12_sumOf_b5 at hf
  refine lv_iload hx hb dX12_sumOf_5 (lv_at hl 4 rfl) ?_
  refine lv_iload_n hx hb dX12_sumOf_7 rfl (lv_at hl 2 rfl) ?_
  refine lv_icmp_ge (tgt := 29) hx hb dX12_sumOf_8 (by decide) (fun q3 => ?_) (fun q3 => ?_)
  · have hf := ifp hf q3
    obtain rfl : x3 = ex5 := hyR5 _ (Option.some.inj hf).symm
    exact hj29 x3 H locs ls hk5 hS (lv_sub hl [3] rfl)
  · have hf := ifn hf q3
    refine lv_iload_n hx hb dX12_sumOf_11 rfl (lv_at hl 3 rfl) ?_
    refine lv_aload_n hx hb dX12_sumOf_12 rfl (lv_at hl 0 rfl) ?_
    obtain ⟨a4, h1, hf⟩ := bs hf
    refine am_gr X hS fl_X12_62 rfl h1 dX12_sumOf_13 ?_
    refine lv_iload_n hx hb dX12_sumOf_16 rfl (lv_at hl 1 rfl) ?_
    refine lv_iload hx hb dX12_sumOf_17 (lv_at hl 4 rfl) ?_
    refine lv_iadd hx hb dX12_sumOf_19 ?_
    obtain ⟨v5, h1, hf⟩ := bs hf
    refine am_ald X hS h1 dX12_sumOf_20 ?_
    refine lv_iadd hx hb dX12_sumOf_21 ?_
    refine lv_topi (fun x3_6 e1 => ?_)
    have hf := lt1_n e1 hf
    refine lv_istore_n (lv' := [(3, .int x3_6), (0, .ref x0), (1, .int x1), (2, .int x2), (4, .int x4)]) hx hb dX12_sumOf_22 rfl hl (by decide) rfl (fun ls hl => ?_)
    obtain ⟨x4_7, e1⟩ : ∃ z : Int32, z = x4 + 1 := ⟨_, rfl⟩
    have hf := lt1_n e1 hf
    refine lv_iinc (v := x4_7) (lv' := [(4, .int x4_7), (3, .int x3_6), (0, .ref x0), (1, .int x1), (2, .int x2)]) hx hb dX12_sumOf_23 hl (k := 4) rfl (by rw [e1]; rfl) (by decide) rfl (fun ls hl => ?_)
    refine lv_goto (tgt := 5) hx hb dX12_sumOf_26 (by decide) ?_
    exact hyL5 _ (Option.some.inj hf).symm H locs ls hS (lv_sub hl [2, 3, 4, 1, 0] rfl)
set_option maxRecDepth 100000 in
theorem cX12_sumOf_ok {l : Launch} {E : Ev} {x0 : Nat} {x1 : Int32} {x2 : Int32} {mm : Mem} {r : Int32} (hf : fX12_sumOf (eS E) x0 x1 x2 mm = some r) : CtI l yX12_sumOf cX12_sumOf 5 (some .int) (0) (0) E [.ref x0, .int x1, .int x2] mm r mm := by
  refine Met.ofW (cc := cX12_sumOf) (maxL := 5) (ret := (some .int)) (by decide) rfl ?_
  intro p e s m args below meth c s₁ B hml hv
  obtain ⟨rfl, X, hS, hr, hlocks⟩ := am_in B hv
  refine am_entry (Nat.le_of_ble_eq_true rfl) (fun ls hl => ?_)
  exact wX12_sumOf X hml ⟨Nat.le_refl _, Nat.le_refl _⟩ hf (fun pc H locs ls hn hd hS => am_ri X hS hr hn hd hlocks) _ _ ls hS hl
set_option maxHeartbeats 4000000 in
set_option maxRecDepth 100000 in
theorem wX12_withinOf {p : Program} {l : Launch} {e : Env} {R : Room} {s : State} {m : MethodId} {args : Array Value} {below : List Frame} {meth : Method} {c : Code} {Q : State → Prop} {E : Ev} (X : Cx p s m args c cX12_withinOf RX12 E) (hml : c.maxLocals = 2) (hR : 1 ≤ R.frames ∧ 24 ≤ R.locals) {x0 : Nat} {x1 : Int32} {mm : Mem} {r : Int32} (hf : fX12_withinOf (eS E) x0 x1 mm = some r) (hret : ∀ (pc : Nat) (H : Heap) (locs : List Loc) (ls : Array Slot), narrow .int (.int r) = .int r → decode cX12_withinOf pc = .ok (.ireturn, 1) → wS E s mm H locs → W p l e R s m args below meth c H locs 0 0 Q (F0 m pc ls [.int r])) : ∀ (H : Heap) (locs : List Loc) (ls : Array Slot), wS E s mm H locs → lv_has ls 2 [(0, .ref x0), (1, .int x1)] → W p l e R s m args below meth c H locs 0 0 Q (F0 m 0 ls []) := by
  have hx := X.1
  have hb := X.2.1
  have hR1 := hR.1
  have hR2 := hR.2
  have hRa : 1 ≤ R.frames := by omega
  have hRb : 24 ≤ R.locals := by omega
  unfold fX12_withinOf at hf
  intro H locs ls hS hl
  refine lv_aload_n hx hb dX12_withinOf_0 rfl (lv_at hl 0 rfl) ?_
  refine lv_iconst (v := 0) hx hb dX12_withinOf_1 (by decide) ?_
  refine lv_iload_n hx hb dX12_withinOf_2 rfl (lv_at hl 1 rfl) ?_
  refine lv_iconst (v := 0) hx hb dX12_withinOf_3 (by decide) ?_
  obtain ⟨v1, h1, hf⟩ := bs hf
  refine am_endi hS (am_runS (As := [.int 0, .int x1, .int 0]) X (hml.trans hl.1.symm) hS (cX12_in_ok (l := l) (E := E) h1) ms_X12_319 ⟨Nat.le_trans (by decide) hRa, Nat.le_trans (by decide) hRb⟩ ⟨Nat.zero_le _, Nat.zero_le _⟩ rfl rfl (Nat.le_of_ble_eq_true rfl) dX12_withinOf_4) (fun H locs hS => ?_)
  refine lv_bipush (v := 7) hx hb dX12_withinOf_7 (by decide) ?_
  obtain ⟨u0, h0, hf⟩ := bs hf
  obtain ⟨_, hrc⟩ := isO_n h0
  obtain ⟨v2, h1, hf⟩ := bs hf
  refine am_endi hS (am_runV (As := [.int v1, .int 7]) X (hml.trans hl.1.symm) hS (cX12_sumOf_ok (l := l) (E := E) h1) mv_X12_322 hrc rfl ⟨Nat.le_trans (by decide) hRa, Nat.le_trans (by decide) hRb⟩ ⟨Nat.zero_le _, Nat.zero_le _⟩ rfl rfl (Nat.le_of_ble_eq_true rfl) dX12_withinOf_9) (fun H locs hS => ?_)
  cases hf
  exact hret _ _ _ _ rfl dX12_withinOf_12 hS
set_option maxRecDepth 100000 in
theorem cX12_withinOf_ok {l : Launch} {E : Ev} {x0 : Nat} {x1 : Int32} {mm : Mem} {r : Int32} (hf : fX12_withinOf (eS E) x0 x1 mm = some r) : CtI l yX12_withinOf cX12_withinOf 2 (some .int) (1) (24) E [.ref x0, .int x1] mm r mm := by
  refine Met.ofW (cc := cX12_withinOf) (maxL := 2) (ret := (some .int)) (by decide) rfl ?_
  intro p e s m args below meth c s₁ B hml hv
  obtain ⟨rfl, X, hS, hr, hlocks⟩ := am_in B hv
  refine am_entry (Nat.le_of_ble_eq_true rfl) (fun ls hl => ?_)
  exact wX12_withinOf X hml ⟨Nat.le_refl _, Nat.le_refl _⟩ hf (fun pc H locs ls hn hd hS => am_ri X hS hr hn hd hlocks) _ _ ls hS hl
set_option maxHeartbeats 4000000 in
set_option maxRecDepth 100000 in
theorem wX12_turnsOf {p : Program} {l : Launch} {e : Env} {R : Room} {s : State} {m : MethodId} {args : Array Value} {below : List Frame} {meth : Method} {c : Code} {Q : State → Prop} {E : Ev} (X : Cx p s m args c cX12_turnsOf RX12 E) (hml : c.maxLocals = 9) (hR : 3 ≤ R.frames ∧ 66 ≤ R.locals) {x0 : Nat} {x1 : Int32} {x2 : Int32} {x3 : Int32} {x4 : Int32} {x5 : Int32} {x6 : Int32} {x7 : Int32} {x8 : Int32} {mm : Mem} {r : Int32} {mm1 : Mem} (hf : fX12_turnsOf (eS E) x0 x1 x2 x3 x4 x5 x6 x7 x8 mm = some (r, mm1)) (hret : ∀ (pc : Nat) (H : Heap) (locs : List Loc) (ls : Array Slot), narrow .int (.int r) = .int r → decode cX12_turnsOf pc = .ok (.ireturn, 1) → wS E s mm1 H locs → W p l e R s m args below meth c H locs 0 0 Q (F0 m pc ls [.int r])) : ∀ (H : Heap) (locs : List Loc) (ls : Array Slot), wS E s mm H locs → lv_has ls 9 [(0, .ref x0), (1, .int x1), (2, .int x2), (3, .int x3), (4, .int x4), (5, .int x5), (6, .int x6), (7, .int x7), (8, .int x8)] → W p l e R s m args below meth c H locs 0 0 Q (F0 m 0 ls []) := by
  have hx := X.1
  have hb := X.2.1
  have hR1 := hR.1
  have hR2 := hR.2
  have hRa : 3 ≤ R.frames := by omega
  have hRb : 66 ≤ R.locals := by omega
  unfold fX12_turnsOf at hf
  intro H locs ls hS hl
  refine lv_aload_n hx hb dX12_turnsOf_0 rfl (lv_at hl 0 rfl) ?_
  obtain ⟨a1, h1, hf⟩ := bs hf
  refine am_gr X hS fl_X12_50 rfl h1 dX12_turnsOf_1 ?_
  refine lv_iconst (v := 0) hx hb dX12_turnsOf_4 (by decide) ?_
  refine lv_iload_n hx hb dX12_turnsOf_5 rfl (lv_at hl 1 rfl) ?_
  obtain ⟨m2, h1, hf⟩ := bs hf
  refine am_ast X hS h1 dX12_turnsOf_6 (fun H locs hS => ?_)
  refine lv_aload_n hx hb dX12_turnsOf_7 rfl (lv_at hl 0 rfl) ?_
  obtain ⟨a3, h1, hf⟩ := bs hf
  refine am_gr X hS fl_X12_50 rfl h1 dX12_turnsOf_8 ?_
  refine lv_iconst (v := 1) hx hb dX12_turnsOf_11 (by decide) ?_
  refine lv_iload_n hx hb dX12_turnsOf_12 rfl (lv_at hl 2 rfl) ?_
  obtain ⟨m4, h1, hf⟩ := bs hf
  refine am_ast X hS h1 dX12_turnsOf_13 (fun H locs hS => ?_)
  refine lv_aload_n hx hb dX12_turnsOf_14 rfl (lv_at hl 0 rfl) ?_
  obtain ⟨a5, h1, hf⟩ := bs hf
  refine am_gr X hS fl_X12_50 rfl h1 dX12_turnsOf_15 ?_
  refine lv_iconst (v := 2) hx hb dX12_turnsOf_18 (by decide) ?_
  refine lv_iload_n hx hb dX12_turnsOf_19 rfl (lv_at hl 3 rfl) ?_
  obtain ⟨m6, h1, hf⟩ := bs hf
  refine am_ast X hS h1 dX12_turnsOf_20 (fun H locs hS => ?_)
  refine lv_aload_n hx hb dX12_turnsOf_21 rfl (lv_at hl 0 rfl) ?_
  obtain ⟨a7, h1, hf⟩ := bs hf
  refine am_gr X hS fl_X12_50 rfl h1 dX12_turnsOf_22 ?_
  refine lv_iconst (v := 3) hx hb dX12_turnsOf_25 (by decide) ?_
  refine lv_iload hx hb dX12_turnsOf_26 (lv_at hl 4 rfl) ?_
  obtain ⟨m8, h1, hf⟩ := bs hf
  refine am_ast X hS h1 dX12_turnsOf_28 (fun H locs hS => ?_)
  refine lv_aload_n hx hb dX12_turnsOf_29 rfl (lv_at hl 0 rfl) ?_
  obtain ⟨a9, h1, hf⟩ := bs hf
  refine am_gr X hS fl_X12_50 rfl h1 dX12_turnsOf_30 ?_
  refine lv_iconst (v := 4) hx hb dX12_turnsOf_33 (by decide) ?_
  refine lv_iload hx hb dX12_turnsOf_34 (lv_at hl 5 rfl) ?_
  obtain ⟨m10, h1, hf⟩ := bs hf
  refine am_ast X hS h1 dX12_turnsOf_36 (fun H locs hS => ?_)
  refine lv_aload_n hx hb dX12_turnsOf_37 rfl (lv_at hl 0 rfl) ?_
  obtain ⟨a11, h1, hf⟩ := bs hf
  refine am_gr X hS fl_X12_50 rfl h1 dX12_turnsOf_38 ?_
  refine lv_iconst (v := 5) hx hb dX12_turnsOf_41 (by decide) ?_
  refine lv_iload hx hb dX12_turnsOf_42 (lv_at hl 6 rfl) ?_
  obtain ⟨m12, h1, hf⟩ := bs hf
  refine am_ast X hS h1 dX12_turnsOf_44 (fun H locs hS => ?_)
  refine lv_aload_n hx hb dX12_turnsOf_45 rfl (lv_at hl 0 rfl) ?_
  obtain ⟨a13, h1, hf⟩ := bs hf
  refine am_gr X hS fl_X12_50 rfl h1 dX12_turnsOf_46 ?_
  refine lv_bipush (v := 6) hx hb dX12_turnsOf_49 (by decide) ?_
  refine lv_iload hx hb dX12_turnsOf_51 (lv_at hl 7 rfl) ?_
  obtain ⟨m14, h1, hf⟩ := bs hf
  refine am_ast X hS h1 dX12_turnsOf_53 (fun H locs hS => ?_)
  refine lv_aload_n hx hb dX12_turnsOf_54 rfl (lv_at hl 0 rfl) ?_
  obtain ⟨a15, h1, hf⟩ := bs hf
  refine am_gr X hS fl_X12_50 rfl h1 dX12_turnsOf_55 ?_
  refine lv_bipush (v := 7) hx hb dX12_turnsOf_58 (by decide) ?_
  refine lv_iload hx hb dX12_turnsOf_60 (lv_at hl 8 rfl) ?_
  obtain ⟨m16, h1, hf⟩ := bs hf
  refine am_ast X hS h1 dX12_turnsOf_62 (fun H locs hS => ?_)
  refine lv_aload_n hx hb dX12_turnsOf_63 rfl (lv_at hl 0 rfl) ?_
  obtain ⟨u0, h0, hf⟩ := bs hf
  obtain ⟨_, hrc⟩ := isO_n h0
  obtain ⟨v17, m18, h1, hf⟩ := bs2 hf
  refine am_endi hS (am_runV (As := []) X (hml.trans hl.1.symm) hS (cX12_turnsNow_ok (l := l) (E := E) h1) mv_X12_325 hrc rfl ⟨Nat.le_trans (by decide) hRa, Nat.le_trans (by decide) hRb⟩ ⟨Nat.zero_le _, Nat.zero_le _⟩ rfl rfl (Nat.le_of_ble_eq_true rfl) dX12_turnsOf_64) (fun H locs hS => ?_)
  cases hf
  exact hret _ _ _ _ rfl dX12_turnsOf_67 hS
set_option maxRecDepth 100000 in
theorem cX12_turnsOf_ok {l : Launch} {E : Ev} {x0 : Nat} {x1 : Int32} {x2 : Int32} {x3 : Int32} {x4 : Int32} {x5 : Int32} {x6 : Int32} {x7 : Int32} {x8 : Int32} {mm : Mem} {r : Int32} {mm1 : Mem} (hf : fX12_turnsOf (eS E) x0 x1 x2 x3 x4 x5 x6 x7 x8 mm = some (r, mm1)) : CtI l yX12_turnsOf cX12_turnsOf 9 (some .int) (3) (66) E [.ref x0, .int x1, .int x2, .int x3, .int x4, .int x5, .int x6, .int x7, .int x8] mm r mm1 := by
  refine Met.ofW (cc := cX12_turnsOf) (maxL := 9) (ret := (some .int)) (by decide) rfl ?_
  intro p e s m args below meth c s₁ B hml hv
  obtain ⟨rfl, X, hS, hr, hlocks⟩ := am_in B hv
  refine am_entry (Nat.le_of_ble_eq_true rfl) (fun ls hl => ?_)
  exact wX12_turnsOf X hml ⟨Nat.le_refl _, Nat.le_refl _⟩ hf (fun pc H locs ls hn hd hS => am_ri X hS hr hn hd hlocks) _ _ ls hS hl
set_option maxHeartbeats 4000000 in
set_option maxRecDepth 100000 in
theorem wX12_turnsBy {p : Program} {l : Launch} {e : Env} {R : Room} {s : State} {m : MethodId} {args : Array Value} {below : List Frame} {meth : Method} {c : Code} {Q : State → Prop} {E : Ev} (X : Cx p s m args c cX12_turnsBy RX12 E) (hml : c.maxLocals = 5) (hR : 4 ≤ R.frames ∧ 94 ≤ R.locals) {x0 : Nat} {x1 : Int32} {x2 : Int32} {x3 : Int32} {x4 : Int32} {mm : Mem} {r : Int32} {mm1 : Mem} (hf : fX12_turnsBy (eS E) x0 x1 x2 x3 x4 mm = some (r, mm1)) (hret : ∀ (pc : Nat) (H : Heap) (locs : List Loc) (ls : Array Slot), narrow .int (.int r) = .int r → decode cX12_turnsBy pc = .ok (.ireturn, 1) → wS E s mm1 H locs → W p l e R s m args below meth c H locs 0 0 Q (F0 m pc ls [.int r])) : ∀ (H : Heap) (locs : List Loc) (ls : Array Slot), wS E s mm H locs → lv_has ls 5 [(0, .ref x0), (1, .int x1), (2, .int x2), (3, .int x3), (4, .int x4)] → W p l e R s m args below meth c H locs 0 0 Q (F0 m 0 ls []) := by
  have hx := X.1
  have hb := X.2.1
  have hR1 := hR.1
  have hR2 := hR.2
  have hRa : 4 ≤ R.frames := by omega
  have hRb : 94 ≤ R.locals := by omega
  unfold fX12_turnsBy at hf
  intro H locs ls hS hl
  refine lv_aload_n hx hb dX12_turnsBy_0 rfl (lv_at hl 0 rfl) ?_
  refine lv_iload_n hx hb dX12_turnsBy_1 rfl (lv_at hl 2 rfl) ?_
  refine lv_iload hx hb dX12_turnsBy_2 (lv_at hl 4 rfl) ?_
  refine lv_aload_n hx hb dX12_turnsBy_4 rfl (lv_at hl 0 rfl) ?_
  obtain ⟨a1, h1, hf⟩ := bs hf
  refine am_gr X hS fl_X12_32 rfl h1 dX12_turnsBy_5 ?_
  refine lv_iconst (v := 2) hx hb dX12_turnsBy_8 (by decide) ?_
  refine lv_iload_n hx hb dX12_turnsBy_9 rfl (lv_at hl 3 rfl) ?_
  refine lv_imul hx hb dX12_turnsBy_10 ?_
  obtain ⟨v2, h1, hf⟩ := bs hf
  refine am_ald X hS h1 dX12_turnsBy_11 ?_
  refine lv_aload_n hx hb dX12_turnsBy_12 rfl (lv_at hl 0 rfl) ?_
  refine lv_iload_n hx hb dX12_turnsBy_13 rfl (lv_at hl 1 rfl) ?_
  obtain ⟨u0, h0, hf⟩ := bs hf
  obtain ⟨_, hrc⟩ := isO_n h0
  obtain ⟨v3, h1, hf⟩ := bs hf
  refine am_endi hS (am_runV (As := [.int x1]) X (hml.trans hl.1.symm) hS (cX12_withinOf_ok (l := l) (E := E) h1) mv_X12_328 hrc rfl ⟨Nat.le_trans (by decide) hRa, Nat.le_trans (by decide) hRb⟩ ⟨Nat.zero_le _, Nat.zero_le _⟩ rfl rfl (Nat.le_of_ble_eq_true rfl) dX12_turnsBy_14) (fun H locs hS => ?_)
  refine lv_aload_n hx hb dX12_turnsBy_17 rfl (lv_at hl 0 rfl) ?_
  obtain ⟨a4, h1, hf⟩ := bs hf
  refine am_gr X hS fl_X12_62 rfl h1 dX12_turnsBy_18 ?_
  refine lv_bipush (v := 126) hx hb dX12_turnsBy_21 (by decide) ?_
  refine lv_iload_n hx hb dX12_turnsBy_23 rfl (lv_at hl 1 rfl) ?_
  refine lv_iload_n hx hb dX12_turnsBy_24 rfl (lv_at hl 2 rfl) ?_
  obtain ⟨v5, h1, hf⟩ := bs hf
  refine am_endi hS (am_runS (As := [.int 126, .int x1, .int x2]) X (hml.trans hl.1.symm) hS (cX12_in_ok (l := l) (E := E) h1) ms_X12_319 ⟨Nat.le_trans (by decide) hRa, Nat.le_trans (by decide) hRb⟩ ⟨Nat.zero_le _, Nat.zero_le _⟩ rfl rfl (Nat.le_of_ble_eq_true rfl) dX12_turnsBy_25) (fun H locs hS => ?_)
  obtain ⟨v6, h1, hf⟩ := bs hf
  refine am_ald X hS h1 dX12_turnsBy_28 ?_
  refine lv_aload_n hx hb dX12_turnsBy_29 rfl (lv_at hl 0 rfl) ?_
  obtain ⟨a7, h1, hf⟩ := bs hf
  refine am_gr X hS fl_X12_62 rfl h1 dX12_turnsBy_30 ?_
  refine lv_sipush (v := 168) hx hb dX12_turnsBy_33 (by decide) ?_
  refine lv_iload_n hx hb dX12_turnsBy_36 rfl (lv_at hl 1 rfl) ?_
  refine lv_iadd hx hb dX12_turnsBy_37 ?_
  obtain ⟨v8, h1, hf⟩ := bs hf
  refine am_ald X hS h1 dX12_turnsBy_38 ?_
  refine lv_aload_n hx hb dX12_turnsBy_39 rfl (lv_at hl 0 rfl) ?_
  obtain ⟨a9, h1, hf⟩ := bs hf
  refine am_gr X hS fl_X12_62 rfl h1 dX12_turnsBy_40 ?_
  refine lv_sipush (v := 174) hx hb dX12_turnsBy_43 (by decide) ?_
  obtain ⟨v10, h1, hf⟩ := bs hf
  refine am_ald X hS h1 dX12_turnsBy_46 ?_
  refine lv_iload_n hx hb dX12_turnsBy_47 rfl (lv_at hl 1 rfl) ?_
  obtain ⟨u0, h0, hf⟩ := bs hf
  obtain ⟨_, hrc⟩ := isO_n h0
  obtain ⟨v11, m12, h1, hf⟩ := bs2 hf
  refine am_endi hS (am_runV (As := [.int x2, .int x4, .int v2, .int v3, .int v6, .int v8, .int v10, .int x1]) X (hml.trans hl.1.symm) hS (cX12_turnsOf_ok (l := l) (E := E) h1) mv_X12_331 hrc rfl ⟨Nat.le_trans (by decide) hRa, Nat.le_trans (by decide) hRb⟩ ⟨Nat.zero_le _, Nat.zero_le _⟩ rfl rfl (Nat.le_of_ble_eq_true rfl) dX12_turnsBy_48) (fun H locs hS => ?_)
  cases hf
  exact hret _ _ _ _ rfl dX12_turnsBy_51 hS
set_option maxRecDepth 100000 in
theorem cX12_turnsBy_ok {l : Launch} {E : Ev} {x0 : Nat} {x1 : Int32} {x2 : Int32} {x3 : Int32} {x4 : Int32} {mm : Mem} {r : Int32} {mm1 : Mem} (hf : fX12_turnsBy (eS E) x0 x1 x2 x3 x4 mm = some (r, mm1)) : CtI l yX12_turnsBy cX12_turnsBy 5 (some .int) (4) (94) E [.ref x0, .int x1, .int x2, .int x3, .int x4] mm r mm1 := by
  refine Met.ofW (cc := cX12_turnsBy) (maxL := 5) (ret := (some .int)) (by decide) rfl ?_
  intro p e s m args below meth c s₁ B hml hv
  obtain ⟨rfl, X, hS, hr, hlocks⟩ := am_in B hv
  refine am_entry (Nat.le_of_ble_eq_true rfl) (fun ls hl => ?_)
  exact wX12_turnsBy X hml ⟨Nat.le_refl _, Nat.le_refl _⟩ hf (fun pc H locs ls hn hd hS => am_ri X hS hr hn hd hlocks) _ _ ls hS hl
set_option maxHeartbeats 4000000 in
set_option maxRecDepth 100000 in
theorem wX12_joinsAll {p : Program} {l : Launch} {e : Env} {R : Room} {s : State} {m : MethodId} {args : Array Value} {below : List Frame} {meth : Method} {c : Code} {Q : State → Prop} {E : Ev} (X : Cx p s m args c cX12_joinsAll RX12 E) (hml : c.maxLocals = 2) (hR : 0 ≤ R.frames ∧ 0 ≤ R.locals) {x0 : Nat} {x1 : Int32} {mm : Mem} {r : Int32} (hf : fX12_joinsAll (eS E) x0 x1 mm = some r) (hret : ∀ (pc : Nat) (H : Heap) (locs : List Loc) (ls : Array Slot), narrow .boolean (.int r) = .int r → decode cX12_joinsAll pc = .ok (.ireturn, 1) → wS E s mm H locs → W p l e R s m args below meth c H locs 0 0 Q (F0 m pc ls [.int r])) : ∀ (H : Heap) (locs : List Loc) (ls : Array Slot), wS E s mm H locs → lv_has ls 2 [(0, .ref x0), (1, .int x1)] → W p l e R s m args below meth c H locs 0 0 Q (F0 m 0 ls []) := by
  have hx := X.1
  have hb := X.2.1
  have hR1 := hR.1
  have hR2 := hR.2
  have hRa : 0 ≤ R.frames := by omega
  have hRb : 0 ≤ R.locals := by omega
  unfold fX12_joinsAll at hf
  have hj19 : ∀ (s0 : Int32) (H : Heap) (locs : List Loc) (ls : Array Slot), fX12_joinsAll_j19 (eS E) s0 mm = some r → wS E s mm H locs → lv_has ls 2 [] → W p l e R s m args below meth c H locs 0 0 Q (F0 m 19 ls [.int s0]) := by
    intro s0 H locs ls hf hS hl
    unfold fX12_joinsAll_j19 at hf
    obtain ⟨v1, h1, hf⟩ := bs hf
    obtain ⟨rfl, h2⟩ := ckZ_n h1
    cases hf
    exact hret _ _ _ _ h2 dX12_joinsAll_19 hS
  intro H locs ls hS hl
  refine lv_aload_n hx hb dX12_joinsAll_0 rfl (lv_at hl 0 rfl) ?_
  obtain ⟨a2, h1, hf⟩ := bs hf
  refine am_gr X hS fl_X12_32 rfl h1 dX12_joinsAll_1 ?_
  refine lv_iconst (v := 2) hx hb dX12_joinsAll_4 (by decide) ?_
  refine lv_iload_n hx hb dX12_joinsAll_5 rfl (lv_at hl 1 rfl) ?_
  refine lv_imul hx hb dX12_joinsAll_6 ?_
  refine lv_iconst (v := 1) hx hb dX12_joinsAll_7 (by decide) ?_
  refine lv_iadd hx hb dX12_joinsAll_8 ?_
  obtain ⟨v3, h1, hf⟩ := bs hf
  refine am_ald X hS h1 dX12_joinsAll_9 ?_
  refine lv_iconst (v := 1) hx hb dX12_joinsAll_10 (by decide) ?_
  refine lv_icmp_ne (tgt := 18) hx hb dX12_joinsAll_11 (by decide) (fun q4 => ?_) (fun q4 => ?_)
  · have hf := ifn hf q4
    refine lv_iconst (v := 0) hx hb dX12_joinsAll_18 (by decide) ?_
    exact hj19 0 H locs ls hf hS (lv_sub hl [] rfl)
  · have hf := ifp hf q4
    refine lv_iconst (v := 1) hx hb dX12_joinsAll_14 (by decide) ?_
    refine lv_goto (tgt := 19) hx hb dX12_joinsAll_15 (by decide) ?_
    exact hj19 1 H locs ls hf hS (lv_sub hl [] rfl)
set_option maxRecDepth 100000 in
theorem cX12_joinsAll_ok {l : Launch} {E : Ev} {x0 : Nat} {x1 : Int32} {mm : Mem} {r : Int32} (hf : fX12_joinsAll (eS E) x0 x1 mm = some r) : CtI l yX12_joinsAll cX12_joinsAll 2 (some .boolean) (0) (0) E [.ref x0, .int x1] mm r mm := by
  refine Met.ofW (cc := cX12_joinsAll) (maxL := 2) (ret := (some .boolean)) (by decide) rfl ?_
  intro p e s m args below meth c s₁ B hml hv
  obtain ⟨rfl, X, hS, hr, hlocks⟩ := am_in B hv
  refine am_entry (Nat.le_of_ble_eq_true rfl) (fun ls hl => ?_)
  exact wX12_joinsAll X hml ⟨Nat.le_refl _, Nat.le_refl _⟩ hf (fun pc H locs ls hn hd hS => am_ri X hS hr hn hd hlocks) _ _ ls hS hl
set_option maxHeartbeats 4000000 in
set_option maxRecDepth 100000 in
theorem wX12_isParted {p : Program} {l : Launch} {e : Env} {R : Room} {s : State} {m : MethodId} {args : Array Value} {below : List Frame} {meth : Method} {c : Code} {Q : State → Prop} {E : Ev} (X : Cx p s m args c cX12_isParted RX12 E) (hml : c.maxLocals = 4) (hR : 5 ≤ R.frames ∧ 118 ≤ R.locals) {x0 : Nat} {x1 : Int32} {x2 : Int32} {mm : Mem} {r : Int32} {mm1 : Mem} (hf : fX12_isParted (eS E) x0 x1 x2 mm = some (r, mm1)) (hret : ∀ (pc : Nat) (H : Heap) (locs : List Loc) (ls : Array Slot), narrow .boolean (.int r) = .int r → decode cX12_isParted pc = .ok (.ireturn, 1) → wS E s mm1 H locs → W p l e R s m args below meth c H locs 0 0 Q (F0 m pc ls [.int r])) : ∀ (H : Heap) (locs : List Loc) (ls : Array Slot), wS E s mm H locs → lv_has ls 4 [(0, .ref x0), (1, .int x1), (2, .int x2)] → W p l e R s m args below meth c H locs 0 0 Q (F0 m 0 ls []) := by
  have hx := X.1
  have hb := X.2.1
  have hR1 := hR.1
  have hR2 := hR.2
  have hRa : 5 ≤ R.frames := by omega
  have hRb : 118 ≤ R.locals := by omega
  unfold fX12_isParted at hf
  have hj16 : ∀ (mm : Mem) (H : Heap) (locs : List Loc) (ls : Array Slot), fX12_isParted_j16 (eS E) mm = some (r, mm1) → wS E s mm H locs → lv_has ls 4 [] → W p l e R s m args below meth c H locs 0 0 Q (F0 m 16 ls []) := by
    intro mm H locs ls hf hS hl
    unfold fX12_isParted_j16 at hf
    refine lv_iconst (v := 0) hx hb dX12_isParted_16 (by decide) ?_
    cases hf
    exact hret _ _ _ _ rfl dX12_isParted_17 hS
  have hj143 : ∀ (x0 : Nat) (x1 : Int32) (mm : Mem) (H : Heap) (locs : List Loc) (ls : Array Slot), fX12_isParted_j143 (eS E) x0 x1 mm = some (r, mm1) → wS E s mm H locs → lv_has ls 4 [(0, .ref x0), (1, .int x1)] → W p l e R s m args below meth c H locs 0 0 Q (F0 m 143 ls []) := by
    intro x0 x1 mm H locs ls hf hS hl
    unfold fX12_isParted_j143 at hf
    refine lv_aload_n hx hb dX12_isParted_143 rfl (lv_at hl 0 rfl) ?_
    obtain ⟨a1, h1, hf⟩ := bs hf
    refine am_gr X hS fl_X12_62 rfl h1 dX12_isParted_144 ?_
    refine lv_sipush (v := 168) hx hb dX12_isParted_147 (by decide) ?_
    refine lv_iload_n hx hb dX12_isParted_150 rfl (lv_at hl 1 rfl) ?_
    refine lv_iadd hx hb dX12_isParted_151 ?_
    refine lv_dup2_11 hx hb dX12_isParted_152 rfl rfl ?_
    obtain ⟨v2, h1, hf⟩ := bs hf
    refine am_ald X hS h1 dX12_isParted_153 ?_
    refine lv_iconst (v := 1) hx hb dX12_isParted_154 (by decide) ?_
    refine lv_iadd hx hb dX12_isParted_155 ?_
    obtain ⟨m3, h1, hf⟩ := bs hf
    refine am_ast X hS h1 dX12_isParted_156 (fun H locs hS => ?_)
    refine lv_iconst (v := 1) hx hb dX12_isParted_157 (by decide) ?_
    cases hf
    exact hret _ _ _ _ rfl dX12_isParted_158 hS
  have hj56 : ∀ (x0 : Nat) (x1 : Int32) (mm : Mem) (H : Heap) (locs : List Loc) (ls : Array Slot), fX12_isParted_j56 (eS E) x0 x1 mm = some (r, mm1) → wS E s mm H locs → lv_has ls 4 [(0, .ref x0), (1, .int x1)] → W p l e R s m args below meth c H locs 0 0 Q (F0 m 56 ls []) := by
    intro x0 x1 mm H locs ls hf hS hl
    unfold fX12_isParted_j56 at hf
    refine lv_iconst (v := 0) hx hb dX12_isParted_56 (by decide) ?_
    refine lv_topi (fun x3_4 e1 => ?_)
    have hf := lt1_n e1 hf
    refine lv_istore_n (lv' := [(3, .int x3_4), (0, .ref x0), (1, .int x1)]) hx hb dX12_isParted_57 rfl hl (by decide) rfl (fun ls hl => ?_)
    obtain ⟨ex58, hl58, hk58⟩ := bs hf
    refine loop_W (P := fun st => ∀ (H : Heap) (locs : List Loc) (ls : Array Slot), wS E s st.2 H locs → lv_has ls 4 [(0, .ref x0), (1, .int x1), (3, .int st.1)] → W p l e R s m args below meth c H locs 0 0 Q (F0 m 58 ls [])) (ex := ex58) ?_ FU _ hl58 H locs ls hS (lv_sub hl [1, 2, 0] rfl)
    intro st y58 hf hyL58 hyR58 H locs ls hS hl
    obtain ⟨x3, mm⟩ := st
    have hf : fX12_isParted_b58 (eS E) x0 x1 x3 mm = some y58 := hf
    have hS : wS E s mm H locs := hS
    have hl : lv_has ls 4 [(0, .ref x0), (1, .int x1), (3, .int x3)] := hl
    unfold fX12_isParted_b58 at hf
    have hj137 : ∀ (x3 : Int32) (mm : Mem) (H : Heap) (locs : List Loc) (ls : Array Slot), fX12_isParted_j137 (eS E) x0 x1 x3 mm = some y58 → wS E s mm H locs → lv_has ls 4 [(0, .ref x0), (1, .int x1), (3, .int x3)] → W p l e R s m args below meth c H locs 0 0 Q (F0 m 137 ls []) := by
      intro x3 mm H locs ls hf hS hl
      unfold fX12_isParted_j137 at hf
      obtain ⟨x3_5, e1⟩ : ∃ z : Int32, z = x3 + 1 := ⟨_, rfl⟩
      have hf := lt1_n e1 hf
      refine lv_iinc (v := x3_5) (lv' := [(3, .int x3_5), (0, .ref x0), (1, .int x1)]) hx hb dX12_isParted_137 hl (k := 2) rfl (by rw [e1]; rfl) (by decide) rfl (fun ls hl => ?_)
      refine lv_goto (tgt := 58) hx hb dX12_isParted_140 (by decide) ?_
      exact hyL58 _ (Option.some.inj hf).symm H locs ls hS (lv_sub hl [1, 2, 0] rfl)
    refine lv_iload_n hx hb dX12_isParted_58 rfl (lv_at hl 2 rfl) ?_
    refine lv_bipush (v := 7) hx hb dX12_isParted_59 (by decide) ?_
    refine lv_icmp_ge (tgt := 143) hx hb dX12_isParted_61 (by decide) (fun q6 => ?_) (fun q6 => ?_)
    · have hf := ifp hf q6
      obtain rfl : mm = ex58 := hyR58 _ (Option.some.inj hf).symm
      exact hj143 x0 x1 mm H locs ls hk58 hS (lv_sub hl [0, 1] rfl)
    · have hf := ifn hf q6
      refine lv_aload_n hx hb dX12_isParted_64 rfl (lv_at hl 0 rfl) ?_
      obtain ⟨a7, h1, hf⟩ := bs hf
      refine am_gr X hS fl_X12_62 rfl h1 dX12_isParted_65 ?_
      refine lv_iconst (v := 0) hx hb dX12_isParted_68 (by decide) ?_
      refine lv_iload_n hx hb dX12_isParted_69 rfl (lv_at hl 1 rfl) ?_
      refine lv_iload_n hx hb dX12_isParted_70 rfl (lv_at hl 2 rfl) ?_
      obtain ⟨v8, h1, hf⟩ := bs hf
      refine am_endi hS (am_runS (As := [.int 0, .int x1, .int x3]) X (hml.trans hl.1.symm) hS (cX12_in_ok (l := l) (E := E) h1) ms_X12_319 ⟨Nat.le_trans (by decide) hRa, Nat.le_trans (by decide) hRb⟩ ⟨Nat.zero_le _, Nat.zero_le _⟩ rfl rfl (Nat.le_of_ble_eq_true rfl) dX12_isParted_71) (fun H locs hS => ?_)
      obtain ⟨v9, h1, hf⟩ := bs hf
      refine am_ald X hS h1 dX12_isParted_74 ?_
      refine lv_if_ne (tgt := 81) hx hb dX12_isParted_75 (by decide) (fun q10 => ?_) (fun q10 => ?_)
      · have hf := ifn hf q10
        refine lv_aload_n hx hb dX12_isParted_81 rfl (lv_at hl 0 rfl) ?_
        obtain ⟨a11, h1, hf⟩ := bs hf
        refine am_gr X hS fl_X12_62 rfl h1 dX12_isParted_82 ?_
        refine lv_bipush (v := 42) hx hb dX12_isParted_85 (by decide) ?_
        refine lv_iload_n hx hb dX12_isParted_87 rfl (lv_at hl 1 rfl) ?_
        refine lv_iload_n hx hb dX12_isParted_88 rfl (lv_at hl 2 rfl) ?_
        obtain ⟨v12, h1, hf⟩ := bs hf
        refine am_endi hS (am_runS (As := [.int 42, .int x1, .int x3]) X (hml.trans hl.1.symm) hS (cX12_in_ok (l := l) (E := E) h1) ms_X12_319 ⟨Nat.le_trans (by decide) hRa, Nat.le_trans (by decide) hRb⟩ ⟨Nat.zero_le _, Nat.zero_le _⟩ rfl rfl (Nat.le_of_ble_eq_true rfl) dX12_isParted_89) (fun H locs hS => ?_)
        refine lv_dup2_11 hx hb dX12_isParted_92 rfl rfl ?_
        obtain ⟨v13, h1, hf⟩ := bs hf
        refine am_ald X hS h1 dX12_isParted_93 ?_
        refine lv_aload_n hx hb dX12_isParted_94 rfl (lv_at hl 0 rfl) ?_
        obtain ⟨a14, h1, hf⟩ := bs hf
        refine am_gr X hS fl_X12_62 rfl h1 dX12_isParted_95 ?_
        refine lv_iconst (v := 0) hx hb dX12_isParted_98 (by decide) ?_
        refine lv_iload_n hx hb dX12_isParted_99 rfl (lv_at hl 1 rfl) ?_
        refine lv_iload_n hx hb dX12_isParted_100 rfl (lv_at hl 2 rfl) ?_
        obtain ⟨v15, h1, hf⟩ := bs hf
        refine am_endi hS (am_runS (As := [.int 0, .int x1, .int x3]) X (hml.trans hl.1.symm) hS (cX12_in_ok (l := l) (E := E) h1) ms_X12_319 ⟨Nat.le_trans (by decide) hRa, Nat.le_trans (by decide) hRb⟩ ⟨Nat.zero_le _, Nat.zero_le _⟩ rfl rfl (Nat.le_of_ble_eq_true rfl) dX12_isParted_101) (fun H locs hS => ?_)
        obtain ⟨v16, h1, hf⟩ := bs hf
        refine am_ald X hS h1 dX12_isParted_104 ?_
        refine lv_iadd hx hb dX12_isParted_105 ?_
        obtain ⟨m17, h1, hf⟩ := bs hf
        refine am_ast X hS h1 dX12_isParted_106 (fun H locs hS => ?_)
        refine lv_aload_n hx hb dX12_isParted_107 rfl (lv_at hl 0 rfl) ?_
        obtain ⟨a18, h1, hf⟩ := bs hf
        refine am_gr X hS fl_X12_62 rfl h1 dX12_isParted_108 ?_
        refine lv_bipush (v := 84) hx hb dX12_isParted_111 (by decide) ?_
        refine lv_iload_n hx hb dX12_isParted_113 rfl (lv_at hl 1 rfl) ?_
        refine lv_iload_n hx hb dX12_isParted_114 rfl (lv_at hl 2 rfl) ?_
        obtain ⟨v19, h1, hf⟩ := bs hf
        refine am_endi hS (am_runS (As := [.int 84, .int x1, .int x3]) X (hml.trans hl.1.symm) hS (cX12_in_ok (l := l) (E := E) h1) ms_X12_319 ⟨Nat.le_trans (by decide) hRa, Nat.le_trans (by decide) hRb⟩ ⟨Nat.zero_le _, Nat.zero_le _⟩ rfl rfl (Nat.le_of_ble_eq_true rfl) dX12_isParted_115) (fun H locs hS => ?_)
        refine lv_aload_n hx hb dX12_isParted_118 rfl (lv_at hl 0 rfl) ?_
        obtain ⟨a20, h1, hf⟩ := bs hf
        refine am_gr X hS fl_X12_68 rfl h1 dX12_isParted_119 ?_
        refine lv_iload_n hx hb dX12_isParted_122 rfl (lv_at hl 2 rfl) ?_
        obtain ⟨v21, h1, hf⟩ := bs hf
        refine am_ald X hS h1 dX12_isParted_123 ?_
        obtain ⟨m22, h1, hf⟩ := bs hf
        refine am_ast X hS h1 dX12_isParted_124 (fun H locs hS => ?_)
        refine lv_aload_n hx hb dX12_isParted_125 rfl (lv_at hl 0 rfl) ?_
        obtain ⟨a23, h1, hf⟩ := bs hf
        refine am_gr X hS fl_X12_62 rfl h1 dX12_isParted_126 ?_
        refine lv_iconst (v := 0) hx hb dX12_isParted_129 (by decide) ?_
        refine lv_iload_n hx hb dX12_isParted_130 rfl (lv_at hl 1 rfl) ?_
        refine lv_iload_n hx hb dX12_isParted_131 rfl (lv_at hl 2 rfl) ?_
        obtain ⟨v24, h1, hf⟩ := bs hf
        refine am_endi hS (am_runS (As := [.int 0, .int x1, .int x3]) X (hml.trans hl.1.symm) hS (cX12_in_ok (l := l) (E := E) h1) ms_X12_319 ⟨Nat.le_trans (by decide) hRa, Nat.le_trans (by decide) hRb⟩ ⟨Nat.zero_le _, Nat.zero_le _⟩ rfl rfl (Nat.le_of_ble_eq_true rfl) dX12_isParted_132) (fun H locs hS => ?_)
        refine lv_iconst (v := 0) hx hb dX12_isParted_135 (by decide) ?_
        obtain ⟨m25, h1, hf⟩ := bs hf
        refine am_ast X hS h1 dX12_isParted_136 (fun H locs hS => ?_)
        exact hj137 x3 m25 H locs ls hf hS hl
      · have hf := ifp hf q10
        refine lv_goto (tgt := 137) hx hb dX12_isParted_78 (by decide) ?_
        exact hj137 x3 mm H locs ls hf hS hl
  intro H locs ls hS hl
  refine lv_aload_n hx hb dX12_isParted_0 rfl (lv_at hl 0 rfl) ?_
  refine lv_iload_n hx hb dX12_isParted_1 rfl (lv_at hl 2 rfl) ?_
  obtain ⟨u0, h0, hf⟩ := bs hf
  obtain ⟨_, hrc⟩ := isO_n h0
  obtain ⟨v26, h1, hf⟩ := bs hf
  refine am_endi hS (am_runV (As := [.int x2]) X (hml.trans hl.1.symm) hS (cX12_joinsAll_ok (l := l) (E := E) h1) mv_X12_335 hrc rfl ⟨Nat.le_trans (by decide) hRa, Nat.le_trans (by decide) hRb⟩ ⟨Nat.zero_le _, Nat.zero_le _⟩ rfl rfl (Nat.le_of_ble_eq_true rfl) dX12_isParted_2) (fun H locs hS => ?_)
  refine lv_if_ne (tgt := 16) hx hb dX12_isParted_5 (by decide) (fun q27 => ?_) (fun q27 => ?_)
  · have hf := ifn hf q27
    exact hj16 mm H locs ls hf hS (lv_sub hl [] rfl)
  · have hf := ifp hf q27
    refine lv_aload_n hx hb dX12_isParted_8 rfl (lv_at hl 0 rfl) ?_
    refine lv_iload_n hx hb dX12_isParted_9 rfl (lv_at hl 1 rfl) ?_
    obtain ⟨u0, h0, hf⟩ := bs hf
    obtain ⟨_, hrc⟩ := isO_n h0
    obtain ⟨v28, h1, hf⟩ := bs hf
    refine am_endi hS (am_runV (As := [.int x1]) X (hml.trans hl.1.symm) hS (cX12_withinOf_ok (l := l) (E := E) h1) mv_X12_328 hrc rfl ⟨Nat.le_trans (by decide) hRa, Nat.le_trans (by decide) hRb⟩ ⟨Nat.zero_le _, Nat.zero_le _⟩ rfl rfl (Nat.le_of_ble_eq_true rfl) dX12_isParted_10) (fun H locs hS => ?_)
    refine lv_if_ne (tgt := 18) hx hb dX12_isParted_13 (by decide) (fun q29 => ?_) (fun q29 => ?_)
    · have hf := ifn hf q29
      refine lv_iconst (v := 0) hx hb dX12_isParted_18 (by decide) ?_
      refine lv_topi (fun x3_30 e1 => ?_)
      have hf := lt1_n e1 hf
      refine lv_istore_n (lv' := [(3, .int x3_30), (0, .ref x0), (1, .int x1), (2, .int x2)]) hx hb dX12_isParted_19 rfl hl (by decide) rfl (fun ls hl => ?_)
      obtain ⟨ex20, hl20, hk20⟩ := bs hf
      refine loop_W (P := fun st => ∀ (H : Heap) (locs : List Loc) (ls : Array Slot), wS E s st.2 H locs → lv_has ls 4 [(0, .ref x0), (1, .int x1), (2, .int x2), (3, .int st.1)] → W p l e R s m args below meth c H locs 0 0 Q (F0 m 20 ls [])) (ex := ex20) ?_ FU _ hl20 H locs ls hS (lv_sub hl [1, 2, 3, 0] rfl)
      intro st y20 hf hyL20 hyR20 H locs ls hS hl
      obtain ⟨x3, mm⟩ := st
      have hf : fX12_isParted_b20 (eS E) x0 x1 x2 x3 mm = some y20 := hf
      have hS : wS E s mm H locs := hS
      have hl : lv_has ls 4 [(0, .ref x0), (1, .int x1), (2, .int x2), (3, .int x3)] := hl
      unfold fX12_isParted_b20 at hf
      refine lv_iload_n hx hb dX12_isParted_20 rfl (lv_at hl 3 rfl) ?_
      refine lv_bipush (v := 7) hx hb dX12_isParted_21 (by decide) ?_
      refine lv_icmp_ge (tgt := 56) hx hb dX12_isParted_23 (by decide) (fun q31 => ?_) (fun q31 => ?_)
      · have hf := ifp hf q31
        obtain rfl : mm = ex20 := hyR20 _ (Option.some.inj hf).symm
        exact hj56 x0 x1 mm H locs ls hk20 hS (lv_sub hl [0, 1] rfl)
      · have hf := ifn hf q31
        refine lv_aload_n hx hb dX12_isParted_26 rfl (lv_at hl 0 rfl) ?_
        obtain ⟨a32, h1, hf⟩ := bs hf
        refine am_gr X hS fl_X12_68 rfl h1 dX12_isParted_27 ?_
        refine lv_iload_n hx hb dX12_isParted_30 rfl (lv_at hl 3 rfl) ?_
        refine lv_aload_n hx hb dX12_isParted_31 rfl (lv_at hl 0 rfl) ?_
        refine lv_iload_n hx hb dX12_isParted_32 rfl (lv_at hl 1 rfl) ?_
        refine lv_iload_n hx hb dX12_isParted_33 rfl (lv_at hl 3 rfl) ?_
        refine lv_iload_n hx hb dX12_isParted_34 rfl (lv_at hl 2 rfl) ?_
        refine lv_aload_n hx hb dX12_isParted_35 rfl (lv_at hl 0 rfl) ?_
        obtain ⟨a33, h1, hf⟩ := bs hf
        refine am_gr X hS fl_X12_62 rfl h1 dX12_isParted_36 ?_
        refine lv_iconst (v := 0) hx hb dX12_isParted_39 (by decide) ?_
        refine lv_iload_n hx hb dX12_isParted_40 rfl (lv_at hl 1 rfl) ?_
        refine lv_iload_n hx hb dX12_isParted_41 rfl (lv_at hl 3 rfl) ?_
        obtain ⟨v34, h1, hf⟩ := bs hf
        refine am_endi hS (am_runS (As := [.int 0, .int x1, .int x3]) X (hml.trans hl.1.symm) hS (cX12_in_ok (l := l) (E := E) h1) ms_X12_319 ⟨Nat.le_trans (by decide) hRa, Nat.le_trans (by decide) hRb⟩ ⟨Nat.zero_le _, Nat.zero_le _⟩ rfl rfl (Nat.le_of_ble_eq_true rfl) dX12_isParted_42) (fun H locs hS => ?_)
        obtain ⟨v35, h1, hf⟩ := bs hf
        refine am_ald X hS h1 dX12_isParted_45 ?_
        obtain ⟨u0, h0, hf⟩ := bs hf
        obtain ⟨_, hrc⟩ := isO_n h0
        obtain ⟨v36, m37, h1, hf⟩ := bs2 hf
        refine am_endi hS (am_runV (As := [.int x1, .int x3, .int x2, .int v35]) X (hml.trans hl.1.symm) hS (cX12_turnsBy_ok (l := l) (E := E) h1) mv_X12_338 hrc rfl ⟨Nat.le_trans (by decide) hRa, Nat.le_trans (by decide) hRb⟩ ⟨Nat.zero_le _, Nat.zero_le _⟩ rfl rfl (Nat.le_of_ble_eq_true rfl) dX12_isParted_46) (fun H locs hS => ?_)
        obtain ⟨m38, h1, hf⟩ := bs hf
        refine am_ast X hS h1 dX12_isParted_49 (fun H locs hS => ?_)
        obtain ⟨x3_39, e1⟩ : ∃ z : Int32, z = x3 + 1 := ⟨_, rfl⟩
        have hf := lt1_n e1 hf
        refine lv_iinc (v := x3_39) (lv' := [(3, .int x3_39), (0, .ref x0), (1, .int x1), (2, .int x2)]) hx hb dX12_isParted_50 hl (k := 3) rfl (by rw [e1]; rfl) (by decide) rfl (fun ls hl => ?_)
        refine lv_goto (tgt := 20) hx hb dX12_isParted_53 (by decide) ?_
        exact hyL20 _ (Option.some.inj hf).symm H locs ls hS (lv_sub hl [1, 2, 3, 0] rfl)
    · have hf := ifp hf q29
      exact hj16 mm H locs ls hf hS (lv_sub hl [] rfl)
set_option maxRecDepth 100000 in
theorem cX12_isParted_ok {l : Launch} {E : Ev} {x0 : Nat} {x1 : Int32} {x2 : Int32} {mm : Mem} {r : Int32} {mm1 : Mem} (hf : fX12_isParted (eS E) x0 x1 x2 mm = some (r, mm1)) : CtI l yX12_isParted cX12_isParted 4 (some .boolean) (5) (118) E [.ref x0, .int x1, .int x2] mm r mm1 := by
  refine Met.ofW (cc := cX12_isParted) (maxL := 4) (ret := (some .boolean)) (by decide) rfl ?_
  intro p e s m args below meth c s₁ B hml hv
  obtain ⟨rfl, X, hS, hr, hlocks⟩ := am_in B hv
  refine am_entry (Nat.le_of_ble_eq_true rfl) (fun ls hl => ?_)
  exact wX12_isParted X hml ⟨Nat.le_refl _, Nat.le_refl _⟩ hf (fun pc H locs ls hn hd hS => am_ri X hS hr hn hd hlocks) _ _ ls hS hl
set_option maxHeartbeats 4000000 in
set_option maxRecDepth 100000 in
theorem wX12_comesBack {p : Program} {l : Launch} {e : Env} {R : Room} {s : State} {m : MethodId} {args : Array Value} {below : List Frame} {meth : Method} {c : Code} {Q : State → Prop} {E : Ev} (X : Cx p s m args c cX12_comesBack RX12 E) (hml : c.maxLocals = 6) (hR : 5 ≤ R.frames ∧ 118 ≤ R.locals) {x0 : Nat} {x1 : Int32} {x2 : Int32} {mm : Mem} {r : Int32} {mm1 : Mem} (hf : fX12_comesBack (eS E) x0 x1 x2 mm = some (r, mm1)) (hret : ∀ (pc : Nat) (H : Heap) (locs : List Loc) (ls : Array Slot), narrow .int (.int r) = .int r → decode cX12_comesBack pc = .ok (.ireturn, 1) → wS E s mm1 H locs → W p l e R s m args below meth c H locs 0 0 Q (F0 m pc ls [.int r])) : ∀ (H : Heap) (locs : List Loc) (ls : Array Slot), wS E s mm H locs → lv_has ls 6 [(0, .ref x0), (1, .int x1), (2, .int x2)] → W p l e R s m args below meth c H locs 0 0 Q (F0 m 0 ls []) := by
  have hx := X.1
  have hb := X.2.1
  have hR1 := hR.1
  have hR2 := hR.2
  have hRa : 5 ≤ R.frames := by omega
  have hRb : 118 ≤ R.locals := by omega
  unfold fX12_comesBack at hf
  have hj83 : ∀ (x3 : Int32) (mm : Mem) (H : Heap) (locs : List Loc) (ls : Array Slot), fX12_comesBack_j83 (eS E) x3 mm = some (r, mm1) → wS E s mm H locs → lv_has ls 6 [(3, .int x3)] → W p l e R s m args below meth c H locs 0 0 Q (F0 m 83 ls []) := by
    intro x3 mm H locs ls hf hS hl
    unfold fX12_comesBack_j83 at hf
    refine lv_iload_n hx hb dX12_comesBack_83 rfl (lv_at hl 0 rfl) ?_
    cases hf
    exact hret _ _ _ _ rfl dX12_comesBack_84 hS
  intro H locs ls hS hl
  refine lv_iconst (v := 0) hx hb dX12_comesBack_0 (by decide) ?_
  refine lv_topi (fun x3_1 e1 => ?_)
  have hf := lt1_n e1 hf
  refine lv_istore_n (lv' := [(3, .int x3_1), (0, .ref x0), (1, .int x1), (2, .int x2)]) hx hb dX12_comesBack_1 rfl hl (by decide) rfl (fun ls hl => ?_)
  refine lv_iconst (v := 0) hx hb dX12_comesBack_2 (by decide) ?_
  refine lv_topi (fun x4_2 e1 => ?_)
  have hf := lt1_n e1 hf
  refine lv_istore (lv' := [(4, .int x4_2), (3, .int x3_1), (0, .ref x0), (1, .int x1), (2, .int x2)]) hx hb dX12_comesBack_3 hl (by decide) rfl (fun ls hl => ?_)
  obtain ⟨ex5, hl5, hk5⟩ := bs hf
  refine loop_W (P := fun st => ∀ (H : Heap) (locs : List Loc) (ls : Array Slot), wS E s st.2.2 H locs → lv_has ls 6 [(0, .ref x0), (1, .int x1), (2, .int x2), (3, .int st.1), (4, .int st.2.1)] → W p l e R s m args below meth c H locs 0 0 Q (F0 m 5 ls [])) (ex := ex5) ?_ FU _ hl5 H locs ls hS (lv_sub hl [2, 3, 4, 1, 0] rfl)
  intro st y5 hf hyL5 hyR5 H locs ls hS hl
  obtain ⟨x3, x4, mm⟩ := st
  have hf : fX12_comesBack_b5 (eS E) x0 x1 x2 x3 x4 mm = some y5 := hf
  have hS : wS E s mm H locs := hS
  have hl : lv_has ls 6 [(0, .ref x0), (1, .int x1), (2, .int x2), (3, .int x3), (4, .int x4)] := hl
  unfold fX12_comesBack_b5 at hf
  have hj75 : ∀ (x4 : Int32) (s0 : Int32) (s1 : Int32) (mm : Mem) (H : Heap) (locs : List Loc) (ls : Array Slot), fX12_comesBack_j75 (eS E) x0 x1 x2 x4 s0 s1 mm = some y5 → wS E s mm H locs → lv_has ls 6 [(0, .ref x0), (1, .int x1), (2, .int x2), (4, .int x4)] → W p l e R s m args below meth c H locs 0 0 Q (F0 m 75 ls [.int s1, .int s0]) := by
    intro x4 s0 s1 mm H locs ls hf hS hl
    unfold fX12_comesBack_j75 at hf
    refine lv_ior hx hb dX12_comesBack_75 ?_
    refine lv_topi (fun x3_3 e1 => ?_)
    have hf := lt1_n e1 hf
    refine lv_istore_n (lv' := [(3, .int x3_3), (0, .ref x0), (1, .int x1), (2, .int x2), (4, .int x4)]) hx hb dX12_comesBack_76 rfl hl (by decide) rfl (fun ls hl => ?_)
    obtain ⟨x4_4, e1⟩ : ∃ z : Int32, z = x4 + 1 := ⟨_, rfl⟩
    have hf := lt1_n e1 hf
    refine lv_iinc (v := x4_4) (lv' := [(4, .int x4_4), (3, .int x3_3), (0, .ref x0), (1, .int x1), (2, .int x2)]) hx hb dX12_comesBack_77 hl (k := 4) rfl (by rw [e1]; rfl) (by decide) rfl (fun ls hl => ?_)
    refine lv_goto (tgt := 5) hx hb dX12_comesBack_80 (by decide) ?_
    exact hyL5 _ (Option.some.inj hf).symm H locs ls hS (lv_sub hl [2, 3, 4, 1, 0] rfl)
  have hj74 : ∀ (x4 : Int32) (s0 : Int32) (mm : Mem) (H : Heap) (locs : List Loc) (ls : Array Slot), fX12_comesBack_j74 (eS E) x0 x1 x2 x4 s0 mm = some y5 → wS E s mm H locs → lv_has ls 6 [(0, .ref x0), (1, .int x1), (2, .int x2), (4, .int x4)] → W p l e R s m args below meth c H locs 0 0 Q (F0 m 74 ls [.int s0]) := by
    intro x4 s0 mm H locs ls hf hS hl
    unfold fX12_comesBack_j74 at hf
    refine lv_iconst (v := 0) hx hb dX12_comesBack_74 (by decide) ?_
    exact hj75 x4 s0 0 mm H locs ls hf hS hl
  refine lv_iload hx hb dX12_comesBack_5 (lv_at hl 4 rfl) ?_
  refine lv_bipush (v := 7) hx hb dX12_comesBack_7 (by decide) ?_
  refine lv_icmp_ge (tgt := 83) hx hb dX12_comesBack_9 (by decide) (fun q5 => ?_) (fun q5 => ?_)
  · have hf := ifp hf q5
    obtain rfl : (x3, mm) = ex5 := hyR5 _ (Option.some.inj hf).symm
    exact hj83 x3 mm H locs ls hk5 hS (lv_sub hl [3] rfl)
  · have hf := ifn hf q5
    refine lv_aload_n hx hb dX12_comesBack_12 rfl (lv_at hl 0 rfl) ?_
    refine lv_iload_n hx hb dX12_comesBack_13 rfl (lv_at hl 2 rfl) ?_
    obtain ⟨u0, h0, hf⟩ := bs hf
    obtain ⟨_, hrc⟩ := isO_n h0
    obtain ⟨v6, h1, hf⟩ := bs hf
    refine am_endi hS (am_runV (As := [.int x2]) X (hml.trans hl.1.symm) hS (cX12_joinsAll_ok (l := l) (E := E) h1) mv_X12_335 hrc rfl ⟨Nat.le_trans (by decide) hRa, Nat.le_trans (by decide) hRb⟩ ⟨Nat.zero_le _, Nat.zero_le _⟩ rfl rfl (Nat.le_of_ble_eq_true rfl) dX12_comesBack_14) (fun H locs hS => ?_)
    refine lv_if_eq (tgt := 83) hx hb dX12_comesBack_17 (by decide) (fun q7 => ?_) (fun q7 => ?_)
    · have hf := ifp hf q7
      obtain rfl : (x3, mm) = ex5 := hyR5 _ (Option.some.inj hf).symm
      exact hj83 x3 mm H locs ls hk5 hS (lv_sub hl [3] rfl)
    · have hf := ifn hf q7
      refine lv_aload_n hx hb dX12_comesBack_20 rfl (lv_at hl 0 rfl) ?_
      obtain ⟨a8, h1, hf⟩ := bs hf
      refine am_gr X hS fl_X12_62 rfl h1 dX12_comesBack_21 ?_
      refine lv_bipush (v := 42) hx hb dX12_comesBack_24 (by decide) ?_
      refine lv_iload_n hx hb dX12_comesBack_26 rfl (lv_at hl 1 rfl) ?_
      refine lv_iload hx hb dX12_comesBack_27 (lv_at hl 4 rfl) ?_
      obtain ⟨v9, h1, hf⟩ := bs hf
      refine am_endi hS (am_runS (As := [.int 42, .int x1, .int x4]) X (hml.trans hl.1.symm) hS (cX12_in_ok (l := l) (E := E) h1) ms_X12_319 ⟨Nat.le_trans (by decide) hRa, Nat.le_trans (by decide) hRb⟩ ⟨Nat.zero_le _, Nat.zero_le _⟩ rfl rfl (Nat.le_of_ble_eq_true rfl) dX12_comesBack_29) (fun H locs hS => ?_)
      obtain ⟨v10, h1, hf⟩ := bs hf
      refine am_ald X hS h1 dX12_comesBack_32 ?_
      refine lv_topi (fun x5_11 e1 => ?_)
      have hf := lt1_n e1 hf
      refine lv_istore (lv' := [(5, .int x5_11), (0, .ref x0), (1, .int x1), (2, .int x2), (3, .int x3), (4, .int x4)]) hx hb dX12_comesBack_33 hl (by decide) rfl (fun ls hl => ?_)
      refine lv_iload_n hx hb dX12_comesBack_35 rfl (lv_at hl 4 rfl) ?_
      refine lv_iload hx hb dX12_comesBack_36 (lv_at hl 0 rfl) ?_
      refine lv_if_le (tgt := 74) hx hb dX12_comesBack_38 (by decide) (fun q12 => ?_) (fun q12 => ?_)
      · have hf := ifp hf q12
        exact hj74 x4 x3 mm H locs ls hf hS (lv_sub hl [1, 2, 3, 5] rfl)
      · have hf := ifn hf q12
        refine lv_aload_n hx hb dX12_comesBack_41 rfl (lv_at hl 1 rfl) ?_
        refine lv_iload_n hx hb dX12_comesBack_42 rfl (lv_at hl 2 rfl) ?_
        refine lv_iload hx hb dX12_comesBack_43 (lv_at hl 5 rfl) ?_
        refine lv_iload_n hx hb dX12_comesBack_45 rfl (lv_at hl 3 rfl) ?_
        refine lv_iload hx hb dX12_comesBack_46 (lv_at hl 0 rfl) ?_
        obtain ⟨u0, h0, hf⟩ := bs hf
        obtain ⟨_, hrc⟩ := isO_n h0
        obtain ⟨v13, m14, h1, hf⟩ := bs2 hf
        refine am_endi hS (am_runV (As := [.int x1, .int x4, .int x2, .int x5_11]) X (hml.trans hl.1.symm) hS (cX12_turnsBy_ok (l := l) (E := E) h1) mv_X12_338 hrc rfl ⟨Nat.le_trans (by decide) hRa, Nat.le_trans (by decide) hRb⟩ ⟨Nat.zero_le _, Nat.zero_le _⟩ rfl rfl (Nat.le_of_ble_eq_true rfl) dX12_comesBack_48) (fun H locs hS => ?_)
        refine lv_aload_n hx hb dX12_comesBack_51 rfl (lv_at hl 1 rfl) ?_
        obtain ⟨a15, h1, hf⟩ := bs hf
        refine am_gr X hS fl_X12_62 rfl h1 dX12_comesBack_52 ?_
        refine lv_bipush (v := 84) hx hb dX12_comesBack_55 (by decide) ?_
        refine lv_iload_n hx hb dX12_comesBack_57 rfl (lv_at hl 2 rfl) ?_
        refine lv_iload hx hb dX12_comesBack_58 (lv_at hl 5 rfl) ?_
        obtain ⟨v16, h1, hf⟩ := bs hf
        refine am_endi hS (am_runS (As := [.int 84, .int x1, .int x4]) X (hml.trans hl.1.symm) hS (cX12_in_ok (l := l) (E := E) h1) ms_X12_319 ⟨Nat.le_trans (by decide) hRa, Nat.le_trans (by decide) hRb⟩ ⟨Nat.zero_le _, Nat.zero_le _⟩ rfl rfl (Nat.le_of_ble_eq_true rfl) dX12_comesBack_60) (fun H locs hS => ?_)
        obtain ⟨v17, h1, hf⟩ := bs hf
        refine am_ald X hS h1 dX12_comesBack_63 ?_
        refine lv_icmp_ne (tgt := 74) hx hb dX12_comesBack_64 (by decide) (fun q18 => ?_) (fun q18 => ?_)
        · have hf := ifn hf q18
          exact hj74 x4 x3 m14 H locs ls hf hS (lv_sub hl [1, 2, 3, 5] rfl)
        · have hf := ifp hf q18
          refine lv_iconst (v := 1) hx hb dX12_comesBack_67 (by decide) ?_
          refine lv_iload hx hb dX12_comesBack_68 (lv_at hl 5 rfl) ?_
          refine lv_ishl hx hb dX12_comesBack_70 ?_
          refine lv_goto (tgt := 75) hx hb dX12_comesBack_71 (by decide) ?_
          exact hj75 x4 x3 (1 <<< (x4 &&& 31)) m14 H locs ls hf hS (lv_sub hl [1, 2, 3, 5] rfl)
set_option maxRecDepth 100000 in
theorem cX12_comesBack_ok {l : Launch} {E : Ev} {x0 : Nat} {x1 : Int32} {x2 : Int32} {mm : Mem} {r : Int32} {mm1 : Mem} (hf : fX12_comesBack (eS E) x0 x1 x2 mm = some (r, mm1)) : CtI l yX12_comesBack cX12_comesBack 6 (some .int) (5) (118) E [.ref x0, .int x1, .int x2] mm r mm1 := by
  refine Met.ofW (cc := cX12_comesBack) (maxL := 6) (ret := (some .int)) (by decide) rfl ?_
  intro p e s m args below meth c s₁ B hml hv
  obtain ⟨rfl, X, hS, hr, hlocks⟩ := am_in B hv
  refine am_entry (Nat.le_of_ble_eq_true rfl) (fun ls hl => ?_)
  exact wX12_comesBack X hml ⟨Nat.le_refl _, Nat.le_refl _⟩ hf (fun pc H locs ls hn hd hS => am_ri X hS hr hn hd hlocks) _ _ ls hS hl
set_option maxHeartbeats 4000000 in
set_option maxRecDepth 100000 in
theorem wX12_isJoined {p : Program} {l : Launch} {e : Env} {R : Room} {s : State} {m : MethodId} {args : Array Value} {below : List Frame} {meth : Method} {c : Code} {Q : State → Prop} {E : Ev} (X : Cx p s m args c cX12_isJoined RX12 E) (hml : c.maxLocals = 5) (hR : 6 ≤ R.frames ∧ 143 ≤ R.locals) {x0 : Nat} {x1 : Int32} {x2 : Int32} {mm : Mem} {r : Int32} {mm1 : Mem} (hf : fX12_isJoined (eS E) x0 x1 x2 mm = some (r, mm1)) (hret : ∀ (pc : Nat) (H : Heap) (locs : List Loc) (ls : Array Slot), narrow .boolean (.int r) = .int r → decode cX12_isJoined pc = .ok (.ireturn, 1) → wS E s mm1 H locs → W p l e R s m args below meth c H locs 0 0 Q (F0 m pc ls [.int r])) : ∀ (H : Heap) (locs : List Loc) (ls : Array Slot), wS E s mm H locs → lv_has ls 5 [(0, .ref x0), (1, .int x1), (2, .int x2)] → W p l e R s m args below meth c H locs 0 0 Q (F0 m 0 ls []) := by
  have hx := X.1
  have hb := X.2.1
  have hR1 := hR.1
  have hR2 := hR.2
  have hRa : 6 ≤ R.frames := by omega
  have hRb : 143 ≤ R.locals := by omega
  unfold fX12_isJoined at hf
  have hj86 : ∀ (s0 : Int32) (mm : Mem) (H : Heap) (locs : List Loc) (ls : Array Slot), fX12_isJoined_j86 (eS E) s0 mm = some (r, mm1) → wS E s mm H locs → lv_has ls 5 [] → W p l e R s m args below meth c H locs 0 0 Q (F0 m 86 ls [.int s0]) := by
    intro s0 mm H locs ls hf hS hl
    unfold fX12_isJoined_j86 at hf
    obtain ⟨v1, h1, hf⟩ := bs hf
    obtain ⟨rfl, h2⟩ := ckZ_n h1
    cases hf
    exact hret _ _ _ _ h2 dX12_isJoined_86 hS
  have hj77 : ∀ (x3 : Int32) (mm : Mem) (H : Heap) (locs : List Loc) (ls : Array Slot), fX12_isJoined_j77 (eS E) x3 mm = some (r, mm1) → wS E s mm H locs → lv_has ls 5 [(3, .int x3)] → W p l e R s m args below meth c H locs 0 0 Q (F0 m 77 ls []) := by
    intro x3 mm H locs ls hf hS hl
    unfold fX12_isJoined_j77 at hf
    refine lv_iload_n hx hb dX12_isJoined_77 rfl (lv_at hl 0 rfl) ?_
    refine lv_if_eq (tgt := 85) hx hb dX12_isJoined_78 (by decide) (fun q2 => ?_) (fun q2 => ?_)
    · have hf := ifp hf q2
      refine lv_iconst (v := 0) hx hb dX12_isJoined_85 (by decide) ?_
      exact hj86 0 mm H locs ls hf hS (lv_sub hl [] rfl)
    · have hf := ifn hf q2
      refine lv_iconst (v := 1) hx hb dX12_isJoined_81 (by decide) ?_
      refine lv_goto (tgt := 86) hx hb dX12_isJoined_82 (by decide) ?_
      exact hj86 1 mm H locs ls hf hS (lv_sub hl [] rfl)
  intro H locs ls hS hl
  refine lv_aload_n hx hb dX12_isJoined_0 rfl (lv_at hl 0 rfl) ?_
  refine lv_iload_n hx hb dX12_isJoined_1 rfl (lv_at hl 1 rfl) ?_
  refine lv_iload_n hx hb dX12_isJoined_2 rfl (lv_at hl 2 rfl) ?_
  obtain ⟨u0, h0, hf⟩ := bs hf
  obtain ⟨_, hrc⟩ := isO_n h0
  obtain ⟨v3, m4, h1, hf⟩ := bs2 hf
  refine am_endi hS (am_runV (As := [.int x1, .int x2]) X (hml.trans hl.1.symm) hS (cX12_comesBack_ok (l := l) (E := E) h1) mv_X12_342 hrc rfl ⟨Nat.le_trans (by decide) hRa, Nat.le_trans (by decide) hRb⟩ ⟨Nat.zero_le _, Nat.zero_le _⟩ rfl rfl (Nat.le_of_ble_eq_true rfl) dX12_isJoined_3) (fun H locs hS => ?_)
  refine lv_topi (fun x3_5 e1 => ?_)
  have hf := lt1_n e1 hf
  refine lv_istore_n (lv' := [(3, .int x3_5), (0, .ref x0), (1, .int x1), (2, .int x2)]) hx hb dX12_isJoined_6 rfl hl (by decide) rfl (fun ls hl => ?_)
  refine lv_iconst (v := 0) hx hb dX12_isJoined_7 (by decide) ?_
  refine lv_topi (fun x4_6 e1 => ?_)
  have hf := lt1_n e1 hf
  refine lv_istore (lv' := [(4, .int x4_6), (3, .int x3_5), (0, .ref x0), (1, .int x1), (2, .int x2)]) hx hb dX12_isJoined_8 hl (by decide) rfl (fun ls hl => ?_)
  obtain ⟨ex10, hl10, hk10⟩ := bs hf
  refine loop_W (P := fun st => ∀ (H : Heap) (locs : List Loc) (ls : Array Slot), wS E s st.2 H locs → lv_has ls 5 [(0, .ref x0), (1, .int x1), (3, .int x3_5), (4, .int st.1)] → W p l e R s m args below meth c H locs 0 0 Q (F0 m 10 ls [])) (ex := ex10) ?_ FU _ hl10 H locs ls hS (lv_sub hl [2, 3, 1, 0] rfl)
  intro st y10 hf hyL10 hyR10 H locs ls hS hl
  obtain ⟨x4, mm⟩ := st
  obtain ⟨x3, rfl⟩ : ∃ z, z = x3_5 := ⟨_, rfl⟩
  have hf : fX12_isJoined_b10 (eS E) x0 x1 x3 x4 mm = some y10 := hf
  have hS : wS E s mm H locs := hS
  have hl : lv_has ls 5 [(0, .ref x0), (1, .int x1), (3, .int x3), (4, .int x4)] := hl
  unfold fX12_isJoined_b10 at hf
  have hj71 : ∀ (x4 : Int32) (mm : Mem) (H : Heap) (locs : List Loc) (ls : Array Slot), fX12_isJoined_j71 (eS E) x0 x1 x3 x4 mm = some y10 → wS E s mm H locs → lv_has ls 5 [(0, .ref x0), (1, .int x1), (3, .int x3), (4, .int x4)] → W p l e R s m args below meth c H locs 0 0 Q (F0 m 71 ls []) := by
    intro x4 mm H locs ls hf hS hl
    unfold fX12_isJoined_j71 at hf
    obtain ⟨x4_7, e1⟩ : ∃ z : Int32, z = x4 + 1 := ⟨_, rfl⟩
    have hf := lt1_n e1 hf
    refine lv_iinc (v := x4_7) (lv' := [(4, .int x4_7), (0, .ref x0), (1, .int x1), (3, .int x3)]) hx hb dX12_isJoined_71 hl (k := 3) rfl (by rw [e1]; rfl) (by decide) rfl (fun ls hl => ?_)
    refine lv_goto (tgt := 10) hx hb dX12_isJoined_74 (by decide) ?_
    exact hyL10 _ (Option.some.inj hf).symm H locs ls hS (lv_sub hl [1, 2, 3, 0] rfl)
  refine lv_iload hx hb dX12_isJoined_10 (lv_at hl 3 rfl) ?_
  refine lv_bipush (v := 7) hx hb dX12_isJoined_12 (by decide) ?_
  refine lv_icmp_ge (tgt := 77) hx hb dX12_isJoined_14 (by decide) (fun q8 => ?_) (fun q8 => ?_)
  · have hf := ifp hf q8
    obtain rfl : mm = ex10 := hyR10 _ (Option.some.inj hf).symm
    exact hj77 x3 mm H locs ls hk10 hS (lv_sub hl [2] rfl)
  · have hf := ifn hf q8
    refine lv_iload_n hx hb dX12_isJoined_17 rfl (lv_at hl 2 rfl) ?_
    refine lv_iload hx hb dX12_isJoined_18 (lv_at hl 3 rfl) ?_
    refine lv_ishr hx hb dX12_isJoined_20 ?_
    refine lv_iconst (v := 1) hx hb dX12_isJoined_21 (by decide) ?_
    refine lv_iand hx hb dX12_isJoined_22 ?_
    refine lv_if_ne (tgt := 29) hx hb dX12_isJoined_23 (by decide) (fun q9 => ?_) (fun q9 => ?_)
    · have hf := ifn hf q9
      refine lv_aload_n hx hb dX12_isJoined_29 rfl (lv_at hl 0 rfl) ?_
      obtain ⟨a10, h1, hf⟩ := bs hf
      refine am_gr X hS fl_X12_62 rfl h1 dX12_isJoined_30 ?_
      refine lv_iconst (v := 0) hx hb dX12_isJoined_33 (by decide) ?_
      refine lv_iload_n hx hb dX12_isJoined_34 rfl (lv_at hl 1 rfl) ?_
      refine lv_iload hx hb dX12_isJoined_35 (lv_at hl 3 rfl) ?_
      obtain ⟨v11, h1, hf⟩ := bs hf
      refine am_endi hS (am_runS (As := [.int 0, .int x1, .int x4]) X (hml.trans hl.1.symm) hS (cX12_in_ok (l := l) (E := E) h1) ms_X12_319 ⟨Nat.le_trans (by decide) hRa, Nat.le_trans (by decide) hRb⟩ ⟨Nat.zero_le _, Nat.zero_le _⟩ rfl rfl (Nat.le_of_ble_eq_true rfl) dX12_isJoined_37) (fun H locs hS => ?_)
      refine lv_dup2_11 hx hb dX12_isJoined_40 rfl rfl ?_
      obtain ⟨v12, h1, hf⟩ := bs hf
      refine am_ald X hS h1 dX12_isJoined_41 ?_
      refine lv_aload_n hx hb dX12_isJoined_42 rfl (lv_at hl 0 rfl) ?_
      obtain ⟨a13, h1, hf⟩ := bs hf
      refine am_gr X hS fl_X12_62 rfl h1 dX12_isJoined_43 ?_
      refine lv_bipush (v := 42) hx hb dX12_isJoined_46 (by decide) ?_
      refine lv_iload_n hx hb dX12_isJoined_48 rfl (lv_at hl 1 rfl) ?_
      refine lv_iload hx hb dX12_isJoined_49 (lv_at hl 3 rfl) ?_
      obtain ⟨v14, h1, hf⟩ := bs hf
      refine am_endi hS (am_runS (As := [.int 42, .int x1, .int x4]) X (hml.trans hl.1.symm) hS (cX12_in_ok (l := l) (E := E) h1) ms_X12_319 ⟨Nat.le_trans (by decide) hRa, Nat.le_trans (by decide) hRb⟩ ⟨Nat.zero_le _, Nat.zero_le _⟩ rfl rfl (Nat.le_of_ble_eq_true rfl) dX12_isJoined_51) (fun H locs hS => ?_)
      obtain ⟨v15, h1, hf⟩ := bs hf
      refine am_ald X hS h1 dX12_isJoined_54 ?_
      refine lv_iadd hx hb dX12_isJoined_55 ?_
      obtain ⟨m16, h1, hf⟩ := bs hf
      refine am_ast X hS h1 dX12_isJoined_56 (fun H locs hS => ?_)
      refine lv_aload_n hx hb dX12_isJoined_57 rfl (lv_at hl 0 rfl) ?_
      obtain ⟨a17, h1, hf⟩ := bs hf
      refine am_gr X hS fl_X12_62 rfl h1 dX12_isJoined_58 ?_
      refine lv_bipush (v := 42) hx hb dX12_isJoined_61 (by decide) ?_
      refine lv_iload_n hx hb dX12_isJoined_63 rfl (lv_at hl 1 rfl) ?_
      refine lv_iload hx hb dX12_isJoined_64 (lv_at hl 3 rfl) ?_
      obtain ⟨v18, h1, hf⟩ := bs hf
      refine am_endi hS (am_runS (As := [.int 42, .int x1, .int x4]) X (hml.trans hl.1.symm) hS (cX12_in_ok (l := l) (E := E) h1) ms_X12_319 ⟨Nat.le_trans (by decide) hRa, Nat.le_trans (by decide) hRb⟩ ⟨Nat.zero_le _, Nat.zero_le _⟩ rfl rfl (Nat.le_of_ble_eq_true rfl) dX12_isJoined_66) (fun H locs hS => ?_)
      refine lv_iconst (v := 0) hx hb dX12_isJoined_69 (by decide) ?_
      obtain ⟨m19, h1, hf⟩ := bs hf
      refine am_ast X hS h1 dX12_isJoined_70 (fun H locs hS => ?_)
      exact hj71 x4 m19 H locs ls hf hS hl
    · have hf := ifp hf q9
      refine lv_goto (tgt := 71) hx hb dX12_isJoined_26 (by decide) ?_
      exact hj71 x4 mm H locs ls hf hS hl
set_option maxRecDepth 100000 in
theorem cX12_isJoined_ok {l : Launch} {E : Ev} {x0 : Nat} {x1 : Int32} {x2 : Int32} {mm : Mem} {r : Int32} {mm1 : Mem} (hf : fX12_isJoined (eS E) x0 x1 x2 mm = some (r, mm1)) : CtI l yX12_isJoined cX12_isJoined 5 (some .boolean) (6) (143) E [.ref x0, .int x1, .int x2] mm r mm1 := by
  refine Met.ofW (cc := cX12_isJoined) (maxL := 5) (ret := (some .boolean)) (by decide) rfl ?_
  intro p e s m args below meth c s₁ B hml hv
  obtain ⟨rfl, X, hS, hr, hlocks⟩ := am_in B hv
  refine am_entry (Nat.le_of_ble_eq_true rfl) (fun ls hl => ?_)
  exact wX12_isJoined X hml ⟨Nat.le_refl _, Nat.le_refl _⟩ hf (fun pc H locs ls hn hd hS => am_ri X hS hr hn hd hlocks) _ _ ls hS hl
set_option maxHeartbeats 4000000 in
set_option maxRecDepth 100000 in
theorem wX12_isMoved {p : Program} {l : Launch} {e : Env} {R : Room} {s : State} {m : MethodId} {args : Array Value} {below : List Frame} {meth : Method} {c : Code} {Q : State → Prop} {E : Ev} (X : Cx p s m args c cX12_isMoved RX12 E) (hml : c.maxLocals = 4) (hR : 0 ≤ R.frames ∧ 0 ≤ R.locals) {x0 : Nat} {x1 : Int32} {x2 : Int32} {x3 : Int32} {mm : Mem} {r : Int32} {mm1 : Mem} (hf : fX12_isMoved (eS E) x0 x1 x2 x3 mm = some (r, mm1)) (hret : ∀ (pc : Nat) (H : Heap) (locs : List Loc) (ls : Array Slot), narrow .boolean (.int r) = .int r → decode cX12_isMoved pc = .ok (.ireturn, 1) → wS E s mm1 H locs → W p l e R s m args below meth c H locs 0 0 Q (F0 m pc ls [.int r])) : ∀ (H : Heap) (locs : List Loc) (ls : Array Slot), wS E s mm H locs → lv_has ls 4 [(0, .ref x0), (1, .int x1), (2, .int x2), (3, .int x3)] → W p l e R s m args below meth c H locs 0 0 Q (F0 m 0 ls []) := by
  have hx := X.1
  have hb := X.2.1
  have hR1 := hR.1
  have hR2 := hR.2
  have hRa : 0 ≤ R.frames := by omega
  have hRb : 0 ≤ R.locals := by omega
  unfold fX12_isMoved at hf
  intro H locs ls hS hl
  refine lv_aload_n hx hb dX12_isMoved_0 rfl (lv_at hl 0 rfl) ?_
  obtain ⟨a1, h1, hf⟩ := bs hf
  refine am_gr X hS fl_X12_62 rfl h1 dX12_isMoved_1 ?_
  refine lv_iload_n hx hb dX12_isMoved_4 rfl (lv_at hl 1 rfl) ?_
  obtain ⟨v2, h1, hf⟩ := bs hf
  refine am_ald X hS h1 dX12_isMoved_5 ?_
  refine lv_iload_n hx hb dX12_isMoved_6 rfl (lv_at hl 3 rfl) ?_
  refine lv_icmp_ge (tgt := 12) hx hb dX12_isMoved_7 (by decide) (fun q3 => ?_) (fun q3 => ?_)
  · have hf := ifp hf q3
    refine lv_aload_n hx hb dX12_isMoved_12 rfl (lv_at hl 0 rfl) ?_
    obtain ⟨a4, h1, hf⟩ := bs hf
    refine am_gr X hS fl_X12_62 rfl h1 dX12_isMoved_13 ?_
    refine lv_iload_n hx hb dX12_isMoved_16 rfl (lv_at hl 1 rfl) ?_
    refine lv_dup2_11 hx hb dX12_isMoved_17 rfl rfl ?_
    obtain ⟨v5, h1, hf⟩ := bs hf
    refine am_ald X hS h1 dX12_isMoved_18 ?_
    refine lv_iload_n hx hb dX12_isMoved_19 rfl (lv_at hl 3 rfl) ?_
    refine lv_isub hx hb dX12_isMoved_20 ?_
    obtain ⟨m6, h1, hf⟩ := bs hf
    refine am_ast X hS h1 dX12_isMoved_21 (fun H locs hS => ?_)
    refine lv_aload_n hx hb dX12_isMoved_22 rfl (lv_at hl 0 rfl) ?_
    obtain ⟨a7, h1, hf⟩ := bs hf
    refine am_gr X hS fl_X12_62 rfl h1 dX12_isMoved_23 ?_
    refine lv_iload_n hx hb dX12_isMoved_26 rfl (lv_at hl 2 rfl) ?_
    refine lv_dup2_11 hx hb dX12_isMoved_27 rfl rfl ?_
    obtain ⟨v8, h1, hf⟩ := bs hf
    refine am_ald X hS h1 dX12_isMoved_28 ?_
    refine lv_iload_n hx hb dX12_isMoved_29 rfl (lv_at hl 3 rfl) ?_
    refine lv_iadd hx hb dX12_isMoved_30 ?_
    obtain ⟨m9, h1, hf⟩ := bs hf
    refine am_ast X hS h1 dX12_isMoved_31 (fun H locs hS => ?_)
    refine lv_iconst (v := 1) hx hb dX12_isMoved_32 (by decide) ?_
    cases hf
    exact hret _ _ _ _ rfl dX12_isMoved_33 hS
  · have hf := ifn hf q3
    refine lv_iconst (v := 0) hx hb dX12_isMoved_10 (by decide) ?_
    cases hf
    exact hret _ _ _ _ rfl dX12_isMoved_11 hS
set_option maxRecDepth 100000 in
theorem cX12_isMoved_ok {l : Launch} {E : Ev} {x0 : Nat} {x1 : Int32} {x2 : Int32} {x3 : Int32} {mm : Mem} {r : Int32} {mm1 : Mem} (hf : fX12_isMoved (eS E) x0 x1 x2 x3 mm = some (r, mm1)) : CtI l yX12_isMoved cX12_isMoved 4 (some .boolean) (0) (0) E [.ref x0, .int x1, .int x2, .int x3] mm r mm1 := by
  refine Met.ofW (cc := cX12_isMoved) (maxL := 4) (ret := (some .boolean)) (by decide) rfl ?_
  intro p e s m args below meth c s₁ B hml hv
  obtain ⟨rfl, X, hS, hr, hlocks⟩ := am_in B hv
  refine am_entry (Nat.le_of_ble_eq_true rfl) (fun ls hl => ?_)
  exact wX12_isMoved X hml ⟨Nat.le_refl _, Nat.le_refl _⟩ hf (fun pc H locs ls hn hd hS => am_ri X hS hr hn hd hlocks) _ _ ls hS hl
set_option maxHeartbeats 4000000 in
set_option maxRecDepth 100000 in
theorem wX12_isSwapped {p : Program} {l : Launch} {e : Env} {R : Room} {s : State} {m : MethodId} {args : Array Value} {below : List Frame} {meth : Method} {c : Code} {Q : State → Prop} {E : Ev} (X : Cx p s m args c cX12_isSwapped RX12 E) (hml : c.maxLocals = 5) (hR : 1 ≤ R.frames ∧ 22 ≤ R.locals) {x0 : Nat} {x1 : Int32} {x2 : Int32} {x3 : Int32} {mm : Mem} {r : Int32} {mm1 : Mem} (hf : fX12_isSwapped (eS E) x0 x1 x2 x3 mm = some (r, mm1)) (hret : ∀ (pc : Nat) (H : Heap) (locs : List Loc) (ls : Array Slot), narrow .boolean (.int r) = .int r → decode cX12_isSwapped pc = .ok (.ireturn, 1) → wS E s mm1 H locs → W p l e R s m args below meth c H locs 0 0 Q (F0 m pc ls [.int r])) : ∀ (H : Heap) (locs : List Loc) (ls : Array Slot), wS E s mm H locs → lv_has ls 5 [(0, .ref x0), (1, .int x1), (2, .int x2), (3, .int x3)] → W p l e R s m args below meth c H locs 0 0 Q (F0 m 0 ls []) := by
  have hx := X.1
  have hb := X.2.1
  have hR1 := hR.1
  have hR2 := hR.2
  have hRa : 1 ≤ R.frames := by omega
  have hRb : 22 ≤ R.locals := by omega
  unfold fX12_isSwapped at hf
  have hj34 : ∀ (mm : Mem) (H : Heap) (locs : List Loc) (ls : Array Slot), fX12_isSwapped_j34 (eS E) mm = some (r, mm1) → wS E s mm H locs → lv_has ls 5 [] → W p l e R s m args below meth c H locs 0 0 Q (F0 m 34 ls []) := by
    intro mm H locs ls hf hS hl
    unfold fX12_isSwapped_j34 at hf
    refine lv_iconst (v := 0) hx hb dX12_isSwapped_34 (by decide) ?_
    cases hf
    exact hret _ _ _ _ rfl dX12_isSwapped_35 hS
  intro H locs ls hS hl
  refine lv_aload_n hx hb dX12_isSwapped_0 rfl (lv_at hl 0 rfl) ?_
  obtain ⟨a1, h1, hf⟩ := bs hf
  refine am_gr X hS fl_X12_62 rfl h1 dX12_isSwapped_1 ?_
  refine lv_iconst (v := 0) hx hb dX12_isSwapped_4 (by decide) ?_
  refine lv_iload_n hx hb dX12_isSwapped_5 rfl (lv_at hl 1 rfl) ?_
  refine lv_iload_n hx hb dX12_isSwapped_6 rfl (lv_at hl 3 rfl) ?_
  obtain ⟨v2, h1, hf⟩ := bs hf
  refine am_endi hS (am_runS (As := [.int 0, .int x1, .int x3]) X (hml.trans hl.1.symm) hS (cX12_in_ok (l := l) (E := E) h1) ms_X12_319 ⟨Nat.le_trans (by decide) hRa, Nat.le_trans (by decide) hRb⟩ ⟨Nat.zero_le _, Nat.zero_le _⟩ rfl rfl (Nat.le_of_ble_eq_true rfl) dX12_isSwapped_7) (fun H locs hS => ?_)
  obtain ⟨v3, h1, hf⟩ := bs hf
  refine am_ald X hS h1 dX12_isSwapped_10 ?_
  refine lv_topi (fun x4_4 e1 => ?_)
  have hf := lt1_n e1 hf
  refine lv_istore (lv' := [(4, .int x4_4), (0, .ref x0), (1, .int x1), (2, .int x2), (3, .int x3)]) hx hb dX12_isSwapped_11 hl (by decide) rfl (fun ls hl => ?_)
  refine lv_iload_n hx hb dX12_isSwapped_13 rfl (lv_at hl 2 rfl) ?_
  refine lv_iload_n hx hb dX12_isSwapped_14 rfl (lv_at hl 3 rfl) ?_
  refine lv_icmp_eq (tgt := 34) hx hb dX12_isSwapped_15 (by decide) (fun q5 => ?_) (fun q5 => ?_)
  · have hf := ifp hf q5
    exact hj34 mm H locs ls hf hS (lv_sub hl [] rfl)
  · have hf := ifn hf q5
    refine lv_iload hx hb dX12_isSwapped_18 (lv_at hl 0 rfl) ?_
    refine lv_aload_n hx hb dX12_isSwapped_20 rfl (lv_at hl 1 rfl) ?_
    obtain ⟨a6, h1, hf⟩ := bs hf
    refine am_gr X hS fl_X12_62 rfl h1 dX12_isSwapped_21 ?_
    refine lv_iconst (v := 0) hx hb dX12_isSwapped_24 (by decide) ?_
    refine lv_iload_n hx hb dX12_isSwapped_25 rfl (lv_at hl 3 rfl) ?_
    refine lv_iload_n hx hb dX12_isSwapped_26 rfl (lv_at hl 4 rfl) ?_
    obtain ⟨v7, h1, hf⟩ := bs hf
    refine am_endi hS (am_runS (As := [.int 0, .int x2, .int x3]) X (hml.trans hl.1.symm) hS (cX12_in_ok (l := l) (E := E) h1) ms_X12_319 ⟨Nat.le_trans (by decide) hRa, Nat.le_trans (by decide) hRb⟩ ⟨Nat.zero_le _, Nat.zero_le _⟩ rfl rfl (Nat.le_of_ble_eq_true rfl) dX12_isSwapped_27) (fun H locs hS => ?_)
    obtain ⟨v8, h1, hf⟩ := bs hf
    refine am_ald X hS h1 dX12_isSwapped_30 ?_
    refine lv_icmp_ne (tgt := 36) hx hb dX12_isSwapped_31 (by decide) (fun q9 => ?_) (fun q9 => ?_)
    · have hf := ifn hf q9
      refine lv_aload_n hx hb dX12_isSwapped_36 rfl (lv_at hl 1 rfl) ?_
      obtain ⟨a10, h1, hf⟩ := bs hf
      refine am_gr X hS fl_X12_62 rfl h1 dX12_isSwapped_37 ?_
      refine lv_iconst (v := 0) hx hb dX12_isSwapped_40 (by decide) ?_
      refine lv_iload_n hx hb dX12_isSwapped_41 rfl (lv_at hl 2 rfl) ?_
      refine lv_iload_n hx hb dX12_isSwapped_42 rfl (lv_at hl 4 rfl) ?_
      obtain ⟨v11, h1, hf⟩ := bs hf
      refine am_endi hS (am_runS (As := [.int 0, .int x1, .int x3]) X (hml.trans hl.1.symm) hS (cX12_in_ok (l := l) (E := E) h1) ms_X12_319 ⟨Nat.le_trans (by decide) hRa, Nat.le_trans (by decide) hRb⟩ ⟨Nat.zero_le _, Nat.zero_le _⟩ rfl rfl (Nat.le_of_ble_eq_true rfl) dX12_isSwapped_43) (fun H locs hS => ?_)
      refine lv_aload_n hx hb dX12_isSwapped_46 rfl (lv_at hl 1 rfl) ?_
      obtain ⟨a12, h1, hf⟩ := bs hf
      refine am_gr X hS fl_X12_62 rfl h1 dX12_isSwapped_47 ?_
      refine lv_iconst (v := 0) hx hb dX12_isSwapped_50 (by decide) ?_
      refine lv_iload_n hx hb dX12_isSwapped_51 rfl (lv_at hl 3 rfl) ?_
      refine lv_iload_n hx hb dX12_isSwapped_52 rfl (lv_at hl 4 rfl) ?_
      obtain ⟨v13, h1, hf⟩ := bs hf
      refine am_endi hS (am_runS (As := [.int 0, .int x2, .int x3]) X (hml.trans hl.1.symm) hS (cX12_in_ok (l := l) (E := E) h1) ms_X12_319 ⟨Nat.le_trans (by decide) hRa, Nat.le_trans (by decide) hRb⟩ ⟨Nat.zero_le _, Nat.zero_le _⟩ rfl rfl (Nat.le_of_ble_eq_true rfl) dX12_isSwapped_53) (fun H locs hS => ?_)
      obtain ⟨v14, h1, hf⟩ := bs hf
      refine am_ald X hS h1 dX12_isSwapped_56 ?_
      obtain ⟨m15, h1, hf⟩ := bs hf
      refine am_ast X hS h1 dX12_isSwapped_57 (fun H locs hS => ?_)
      refine lv_aload_n hx hb dX12_isSwapped_58 rfl (lv_at hl 1 rfl) ?_
      obtain ⟨a16, h1, hf⟩ := bs hf
      refine am_gr X hS fl_X12_62 rfl h1 dX12_isSwapped_59 ?_
      refine lv_iconst (v := 0) hx hb dX12_isSwapped_62 (by decide) ?_
      refine lv_iload_n hx hb dX12_isSwapped_63 rfl (lv_at hl 3 rfl) ?_
      refine lv_iload_n hx hb dX12_isSwapped_64 rfl (lv_at hl 4 rfl) ?_
      obtain ⟨v17, h1, hf⟩ := bs hf
      refine am_endi hS (am_runS (As := [.int 0, .int x2, .int x3]) X (hml.trans hl.1.symm) hS (cX12_in_ok (l := l) (E := E) h1) ms_X12_319 ⟨Nat.le_trans (by decide) hRa, Nat.le_trans (by decide) hRb⟩ ⟨Nat.zero_le _, Nat.zero_le _⟩ rfl rfl (Nat.le_of_ble_eq_true rfl) dX12_isSwapped_65) (fun H locs hS => ?_)
      refine lv_iload hx hb dX12_isSwapped_68 (lv_at hl 0 rfl) ?_
      obtain ⟨m18, h1, hf⟩ := bs hf
      refine am_ast X hS h1 dX12_isSwapped_70 (fun H locs hS => ?_)
      refine lv_iconst (v := 1) hx hb dX12_isSwapped_71 (by decide) ?_
      cases hf
      exact hret _ _ _ _ rfl dX12_isSwapped_72 hS
    · have hf := ifp hf q9
      exact hj34 mm H locs ls hf hS (lv_sub hl [] rfl)
set_option maxRecDepth 100000 in
theorem cX12_isSwapped_ok {l : Launch} {E : Ev} {x0 : Nat} {x1 : Int32} {x2 : Int32} {x3 : Int32} {mm : Mem} {r : Int32} {mm1 : Mem} (hf : fX12_isSwapped (eS E) x0 x1 x2 x3 mm = some (r, mm1)) : CtI l yX12_isSwapped cX12_isSwapped 5 (some .boolean) (1) (22) E [.ref x0, .int x1, .int x2, .int x3] mm r mm1 := by
  refine Met.ofW (cc := cX12_isSwapped) (maxL := 5) (ret := (some .boolean)) (by decide) rfl ?_
  intro p e s m args below meth c s₁ B hml hv
  obtain ⟨rfl, X, hS, hr, hlocks⟩ := am_in B hv
  refine am_entry (Nat.le_of_ble_eq_true rfl) (fun ls hl => ?_)
  exact wX12_isSwapped X hml ⟨Nat.le_refl _, Nat.le_refl _⟩ hf (fun pc H locs ls hn hd hS => am_ri X hS hr hn hd hlocks) _ _ ls hS hl
set_option maxHeartbeats 4000000 in
set_option maxRecDepth 100000 in
theorem wX12_passes {p : Program} {l : Launch} {e : Env} {R : Room} {s : State} {m : MethodId} {args : Array Value} {below : List Frame} {meth : Method} {c : Code} {Q : State → Prop} {E : Ev} (X : Cx p s m args c cX12_passes RX12 E) (hml : c.maxLocals = 2) (hR : 0 ≤ R.frames ∧ 0 ≤ R.locals) {x0 : Nat} {mm : Mem} {mm1 : Mem} (hf : fX12_passes (eS E) x0 mm = some mm1) (hret : ∀ (pc : Nat) (H : Heap) (locs : List Loc) (ls : Array Slot), decode cX12_passes pc = .ok (.return_, 1) → wS E s mm1 H locs → W p l e R s m args below meth c H locs 0 0 Q (F0 m pc ls [])) : ∀ (H : Heap) (locs : List Loc) (ls : Array Slot), wS E s mm H locs → lv_has ls 2 [(0, .ref x0)] → W p l e R s m args below meth c H locs 0 0 Q (F0 m 0 ls []) := by
  have hx := X.1
  have hb := X.2.1
  have hR1 := hR.1
  have hR2 := hR.2
  have hRa : 0 ≤ R.frames := by omega
  have hRb : 0 ≤ R.locals := by omega
  unfold fX12_passes at hf
  have hj38 : ∀ (x0 : Nat) (mm : Mem) (H : Heap) (locs : List Loc) (ls : Array Slot), fX12_passes_j38 (eS E) x0 mm = some mm1 → wS E s mm H locs → lv_has ls 2 [(0, .ref x0)] → W p l e R s m args below meth c H locs 0 0 Q (F0 m 38 ls []) := by
    intro x0 mm H locs ls hf hS hl
    unfold fX12_passes_j38 at hf
    refine lv_aload_n hx hb dX12_passes_38 rfl (lv_at hl 0 rfl) ?_
    obtain ⟨a1, h1, hf⟩ := bs hf
    refine am_gr X hS fl_X12_62 rfl h1 dX12_passes_39 ?_
    refine lv_sipush (v := 174) hx hb dX12_passes_42 (by decide) ?_
    refine lv_dup2_11 hx hb dX12_passes_45 rfl rfl ?_
    obtain ⟨v2, h1, hf⟩ := bs hf
    refine am_ald X hS h1 dX12_passes_46 ?_
    refine lv_iconst (v := 1) hx hb dX12_passes_47 (by decide) ?_
    refine lv_iadd hx hb dX12_passes_48 ?_
    obtain ⟨m3, h1, hf⟩ := bs hf
    refine am_ast X hS h1 dX12_passes_49 (fun H locs hS => ?_)
    cases hf
    exact hret _ _ _ _ dX12_passes_50 hS
  intro H locs ls hS hl
  refine lv_bipush (v := 42) hx hb dX12_passes_0 (by decide) ?_
  refine lv_topi (fun x1_4 e1 => ?_)
  have hf := lt1_n e1 hf
  refine lv_istore_n (lv' := [(1, .int x1_4), (0, .ref x0)]) hx hb dX12_passes_2 rfl hl (by decide) rfl (fun ls hl => ?_)
  obtain ⟨ex3, hl3, hk3⟩ := bs hf
  refine loop_W (P := fun st => ∀ (H : Heap) (locs : List Loc) (ls : Array Slot), wS E s st.2 H locs → lv_has ls 2 [(0, .ref x0), (1, .int st.1)] → W p l e R s m args below meth c H locs 0 0 Q (F0 m 3 ls [])) (ex := ex3) ?_ FU _ hl3 H locs ls hS (lv_sub hl [1, 0] rfl)
  intro st y3 hf hyL3 hyR3 H locs ls hS hl
  obtain ⟨x1, mm⟩ := st
  have hf : fX12_passes_b3 (eS E) x0 x1 mm = some y3 := hf
  have hS : wS E s mm H locs := hS
  have hl : lv_has ls 2 [(0, .ref x0), (1, .int x1)] := hl
  unfold fX12_passes_b3 at hf
  have hj30 : ∀ (x1 : Int32) (s0 : Nat) (s1 : Int32) (s2 : Int32) (s3 : Int32) (mm : Mem) (H : Heap) (locs : List Loc) (ls : Array Slot), fX12_passes_j30 (eS E) x0 x1 s0 s1 s2 s3 mm = some y3 → wS E s mm H locs → lv_has ls 2 [(0, .ref x0), (1, .int x1)] → W p l e R s m args below meth c H locs 0 0 Q (F0 m 30 ls [.int s3, .int s2, .int s1, .ref s0]) := by
    intro x1 s0 s1 s2 s3 mm H locs ls hf hS hl
    unfold fX12_passes_j30 at hf
    refine lv_isub hx hb dX12_passes_30 ?_
    obtain ⟨m5, h1, hf⟩ := bs hf
    refine am_ast X hS h1 dX12_passes_31 (fun H locs hS => ?_)
    obtain ⟨x1_6, e1⟩ : ∃ z : Int32, z = x1 + 1 := ⟨_, rfl⟩
    have hf := lt1_n e1 hf
    refine lv_iinc (v := x1_6) (lv' := [(1, .int x1_6), (0, .ref x0)]) hx hb dX12_passes_32 hl (k := 1) rfl (by rw [e1]; rfl) (by decide) rfl (fun ls hl => ?_)
    refine lv_goto (tgt := 3) hx hb dX12_passes_35 (by decide) ?_
    exact hyL3 _ (Option.some.inj hf).symm H locs ls hS (lv_sub hl [1, 0] rfl)
  refine lv_iload_n hx hb dX12_passes_3 rfl (lv_at hl 1 rfl) ?_
  refine lv_bipush (v := 84) hx hb dX12_passes_4 (by decide) ?_
  refine lv_icmp_ge (tgt := 38) hx hb dX12_passes_6 (by decide) (fun q7 => ?_) (fun q7 => ?_)
  · have hf := ifp hf q7
    obtain rfl : mm = ex3 := hyR3 _ (Option.some.inj hf).symm
    exact hj38 x0 mm H locs ls hk3 hS (lv_sub hl [0] rfl)
  · have hf := ifn hf q7
    refine lv_aload_n hx hb dX12_passes_9 rfl (lv_at hl 0 rfl) ?_
    obtain ⟨a8, h1, hf⟩ := bs hf
    refine am_gr X hS fl_X12_62 rfl h1 dX12_passes_10 ?_
    refine lv_iload_n hx hb dX12_passes_13 rfl (lv_at hl 1 rfl) ?_
    refine lv_dup2_11 hx hb dX12_passes_14 rfl rfl ?_
    obtain ⟨v9, h1, hf⟩ := bs hf
    refine am_ald X hS h1 dX12_passes_15 ?_
    refine lv_aload_n hx hb dX12_passes_16 rfl (lv_at hl 0 rfl) ?_
    obtain ⟨a10, h1, hf⟩ := bs hf
    refine am_gr X hS fl_X12_62 rfl h1 dX12_passes_17 ?_
    refine lv_iload_n hx hb dX12_passes_20 rfl (lv_at hl 1 rfl) ?_
    obtain ⟨v11, h1, hf⟩ := bs hf
    refine am_ald X hS h1 dX12_passes_21 ?_
    refine lv_if_le (tgt := 29) hx hb dX12_passes_22 (by decide) (fun q12 => ?_) (fun q12 => ?_)
    · have hf := ifp hf q12
      refine lv_iconst (v := 0) hx hb dX12_passes_29 (by decide) ?_
      exact hj30 x1 a8 x1 v9 0 mm H locs ls hf hS hl
    · have hf := ifn hf q12
      refine lv_iconst (v := 1) hx hb dX12_passes_25 (by decide) ?_
      refine lv_goto (tgt := 30) hx hb dX12_passes_26 (by decide) ?_
      exact hj30 x1 a8 x1 v9 1 mm H locs ls hf hS hl
set_option maxRecDepth 100000 in
theorem cX12_passes_ok {l : Launch} {E : Ev} {x0 : Nat} {mm : Mem} {mm1 : Mem} (hf : fX12_passes (eS E) x0 mm = some mm1) : CtV l yX12_passes cX12_passes 2 none (0) (0) E [.ref x0] mm mm1 := by
  refine Met.ofW (cc := cX12_passes) (maxL := 2) (ret := none) (by decide) rfl ?_
  intro p e s m args below meth c s₁ B hml hv
  obtain ⟨rfl, X, hS, hr, hlocks⟩ := am_in B hv
  refine am_entry (Nat.le_of_ble_eq_true rfl) (fun ls hl => ?_)
  exact wX12_passes X hml ⟨Nat.le_refl _, Nat.le_refl _⟩ hf (fun pc H locs ls hd hS => am_rv X hS hr hd hlocks) _ _ ls hS hl
set_option maxHeartbeats 4000000 in
set_option maxRecDepth 100000 in
theorem wX12_isDone {p : Program} {l : Launch} {e : Env} {R : Room} {s : State} {m : MethodId} {args : Array Value} {below : List Frame} {meth : Method} {c : Code} {Q : State → Prop} {E : Ev} (X : Cx p s m args c cX12_isDone RX12 E) (hml : c.maxLocals = 5) (hR : 7 ≤ R.frames ∧ 167 ≤ R.locals) {x0 : Nat} {x1 : Int32} {x2 : Int32} {x3 : Int32} {x4 : Int32} {mm : Mem} {r : Int32} {mm1 : Mem} (hf : fX12_isDone (eS E) x0 x1 x2 x3 x4 mm = some (r, mm1)) (hret : ∀ (pc : Nat) (H : Heap) (locs : List Loc) (ls : Array Slot), narrow .boolean (.int r) = .int r → decode cX12_isDone pc = .ok (.ireturn, 1) → wS E s mm1 H locs → W p l e R s m args below meth c H locs 0 0 Q (F0 m pc ls [.int r])) : ∀ (H : Heap) (locs : List Loc) (ls : Array Slot), wS E s mm H locs → lv_has ls 5 [(0, .ref x0), (1, .int x1), (2, .int x2), (3, .int x3), (4, .int x4)] → W p l e R s m args below meth c H locs 0 0 Q (F0 m 0 ls []) := by
  have hx := X.1
  have hb := X.2.1
  have hR1 := hR.1
  have hR2 := hR.2
  have hRa : 7 ≤ R.frames := by omega
  have hRb : 167 ≤ R.locals := by omega
  unfold fX12_isDone at hf
  intro H locs ls hS hl
  refine lv_iload_n hx hb dX12_isDone_0 rfl (lv_at hl 1 rfl) ?_
  refine lv_if_ne (tgt := 11) hx hb dX12_isDone_1 (by decide) (fun q1 => ?_) (fun q1 => ?_)
  · have hf := ifn hf q1
    refine lv_iload_n hx hb dX12_isDone_11 rfl (lv_at hl 1 rfl) ?_
    refine lv_iconst (v := 1) hx hb dX12_isDone_12 (by decide) ?_
    refine lv_icmp_ne (tgt := 23) hx hb dX12_isDone_13 (by decide) (fun q2 => ?_) (fun q2 => ?_)
    · have hf := ifn hf q2
      refine lv_iload_n hx hb dX12_isDone_23 rfl (lv_at hl 1 rfl) ?_
      refine lv_iconst (v := 2) hx hb dX12_isDone_24 (by decide) ?_
      refine lv_icmp_ne (tgt := 48) hx hb dX12_isDone_25 (by decide) (fun q3 => ?_) (fun q3 => ?_)
      · have hf := ifn hf q3
        refine lv_iload_n hx hb dX12_isDone_48 rfl (lv_at hl 1 rfl) ?_
        refine lv_iconst (v := 3) hx hb dX12_isDone_49 (by decide) ?_
        refine lv_icmp_ne (tgt := 73) hx hb dX12_isDone_50 (by decide) (fun q4 => ?_) (fun q4 => ?_)
        · have hf := ifn hf q4
          refine lv_iload_n hx hb dX12_isDone_73 rfl (lv_at hl 1 rfl) ?_
          refine lv_iconst (v := 4) hx hb dX12_isDone_74 (by decide) ?_
          refine lv_icmp_ne (tgt := 87) hx hb dX12_isDone_75 (by decide) (fun q5 => ?_) (fun q5 => ?_)
          · have hf := ifn hf q5
            refine lv_aload_n hx hb dX12_isDone_87 rfl (lv_at hl 0 rfl) ?_
            obtain ⟨a6, h1, hf⟩ := bs hf
            refine am_gr X hS fl_X12_62 rfl h1 dX12_isDone_88 ?_
            refine lv_sipush (v := 174) hx hb dX12_isDone_91 (by decide) ?_
            obtain ⟨v7, h1, hf⟩ := bs hf
            refine am_ald X hS h1 dX12_isDone_94 ?_
            refine lv_sipush (v := 400) hx hb dX12_isDone_95 (by decide) ?_
            refine lv_icmp_lt (tgt := 103) hx hb dX12_isDone_98 (by decide) (fun q8 => ?_) (fun q8 => ?_)
            · have hf := ifp hf q8
              refine lv_aload_n hx hb dX12_isDone_103 rfl (lv_at hl 0 rfl) ?_
              obtain ⟨u0, h0, hf⟩ := bs hf
              obtain ⟨_, hrc⟩ := isO_n h0
              obtain ⟨m9, h1, hf⟩ := bs hf
              refine am_endv hS (am_runV (As := []) X (hml.trans hl.1.symm) hS (cX12_passes_ok (l := l) (E := E) h1) mv_X12_359 hrc rfl ⟨Nat.le_trans (by decide) hRa, Nat.le_trans (by decide) hRb⟩ ⟨Nat.zero_le _, Nat.zero_le _⟩ rfl rfl (Nat.le_of_ble_eq_true rfl) dX12_isDone_104) (fun H locs hS => ?_)
              refine lv_iconst (v := 1) hx hb dX12_isDone_107 (by decide) ?_
              cases hf
              exact hret _ _ _ _ rfl dX12_isDone_108 hS
            · have hf := ifn hf q8
              refine lv_iconst (v := 0) hx hb dX12_isDone_101 (by decide) ?_
              cases hf
              exact hret _ _ _ _ rfl dX12_isDone_102 hS
          · have hf := ifp hf q5
            refine lv_aload_n hx hb dX12_isDone_78 rfl (lv_at hl 0 rfl) ?_
            refine lv_iload_n hx hb dX12_isDone_79 rfl (lv_at hl 2 rfl) ?_
            refine lv_iload_n hx hb dX12_isDone_80 rfl (lv_at hl 3 rfl) ?_
            refine lv_iload hx hb dX12_isDone_81 (lv_at hl 4 rfl) ?_
            obtain ⟨u0, h0, hf⟩ := bs hf
            obtain ⟨_, hrc⟩ := isO_n h0
            obtain ⟨v10, m11, h1, hf⟩ := bs2 hf
            refine am_endi hS (am_runV (As := [.int x2, .int x3, .int x4]) X (hml.trans hl.1.symm) hS (cX12_isSwapped_ok (l := l) (E := E) h1) mv_X12_356 hrc rfl ⟨Nat.le_trans (by decide) hRa, Nat.le_trans (by decide) hRb⟩ ⟨Nat.zero_le _, Nat.zero_le _⟩ rfl rfl (Nat.le_of_ble_eq_true rfl) dX12_isDone_83) (fun H locs hS => ?_)
            obtain ⟨v12, h1, hf⟩ := bs hf
            obtain ⟨rfl, h2⟩ := ckZ_n h1
            cases hf
            exact hret _ _ _ _ h2 dX12_isDone_86 hS
        · have hf := ifp hf q4
          refine lv_aload_n hx hb dX12_isDone_53 rfl (lv_at hl 0 rfl) ?_
          refine lv_bipush (v := 126) hx hb dX12_isDone_54 (by decide) ?_
          refine lv_iload_n hx hb dX12_isDone_56 rfl (lv_at hl 2 rfl) ?_
          refine lv_iload_n hx hb dX12_isDone_57 rfl (lv_at hl 3 rfl) ?_
          obtain ⟨v13, h1, hf⟩ := bs hf
          refine am_endi hS (am_runS (As := [.int 126, .int x2, .int x3]) X (hml.trans hl.1.symm) hS (cX12_in_ok (l := l) (E := E) h1) ms_X12_319 ⟨Nat.le_trans (by decide) hRa, Nat.le_trans (by decide) hRb⟩ ⟨Nat.zero_le _, Nat.zero_le _⟩ rfl rfl (Nat.le_of_ble_eq_true rfl) dX12_isDone_58) (fun H locs hS => ?_)
          refine lv_iconst (v := 0) hx hb dX12_isDone_61 (by decide) ?_
          refine lv_iload_n hx hb dX12_isDone_62 rfl (lv_at hl 2 rfl) ?_
          refine lv_iload_n hx hb dX12_isDone_63 rfl (lv_at hl 3 rfl) ?_
          obtain ⟨v14, h1, hf⟩ := bs hf
          refine am_endi hS (am_runS (As := [.int 0, .int x2, .int x3]) X (hml.trans hl.1.symm) hS (cX12_in_ok (l := l) (E := E) h1) ms_X12_319 ⟨Nat.le_trans (by decide) hRa, Nat.le_trans (by decide) hRb⟩ ⟨Nat.zero_le _, Nat.zero_le _⟩ rfl rfl (Nat.le_of_ble_eq_true rfl) dX12_isDone_64) (fun H locs hS => ?_)
          refine lv_iload hx hb dX12_isDone_67 (lv_at hl 4 rfl) ?_
          obtain ⟨u0, h0, hf⟩ := bs hf
          obtain ⟨_, hrc⟩ := isO_n h0
          obtain ⟨v15, m16, h1, hf⟩ := bs2 hf
          refine am_endi hS (am_runV (As := [.int v13, .int v14, .int x4]) X (hml.trans hl.1.symm) hS (cX12_isMoved_ok (l := l) (E := E) h1) mv_X12_352 hrc rfl ⟨Nat.le_trans (by decide) hRa, Nat.le_trans (by decide) hRb⟩ ⟨Nat.zero_le _, Nat.zero_le _⟩ rfl rfl (Nat.le_of_ble_eq_true rfl) dX12_isDone_69) (fun H locs hS => ?_)
          obtain ⟨v17, h1, hf⟩ := bs hf
          obtain ⟨rfl, h2⟩ := ckZ_n h1
          cases hf
          exact hret _ _ _ _ h2 dX12_isDone_72 hS
      · have hf := ifp hf q3
        refine lv_aload_n hx hb dX12_isDone_28 rfl (lv_at hl 0 rfl) ?_
        refine lv_iconst (v := 0) hx hb dX12_isDone_29 (by decide) ?_
        refine lv_iload_n hx hb dX12_isDone_30 rfl (lv_at hl 2 rfl) ?_
        refine lv_iload_n hx hb dX12_isDone_31 rfl (lv_at hl 3 rfl) ?_
        obtain ⟨v18, h1, hf⟩ := bs hf
        refine am_endi hS (am_runS (As := [.int 0, .int x2, .int x3]) X (hml.trans hl.1.symm) hS (cX12_in_ok (l := l) (E := E) h1) ms_X12_319 ⟨Nat.le_trans (by decide) hRa, Nat.le_trans (by decide) hRb⟩ ⟨Nat.zero_le _, Nat.zero_le _⟩ rfl rfl (Nat.le_of_ble_eq_true rfl) dX12_isDone_32) (fun H locs hS => ?_)
        refine lv_bipush (v := 126) hx hb dX12_isDone_35 (by decide) ?_
        refine lv_iload_n hx hb dX12_isDone_37 rfl (lv_at hl 2 rfl) ?_
        refine lv_iload_n hx hb dX12_isDone_38 rfl (lv_at hl 3 rfl) ?_
        obtain ⟨v19, h1, hf⟩ := bs hf
        refine am_endi hS (am_runS (As := [.int 126, .int x2, .int x3]) X (hml.trans hl.1.symm) hS (cX12_in_ok (l := l) (E := E) h1) ms_X12_319 ⟨Nat.le_trans (by decide) hRa, Nat.le_trans (by decide) hRb⟩ ⟨Nat.zero_le _, Nat.zero_le _⟩ rfl rfl (Nat.le_of_ble_eq_true rfl) dX12_isDone_39) (fun H locs hS => ?_)
        refine lv_iload hx hb dX12_isDone_42 (lv_at hl 4 rfl) ?_
        obtain ⟨u0, h0, hf⟩ := bs hf
        obtain ⟨_, hrc⟩ := isO_n h0
        obtain ⟨v20, m21, h1, hf⟩ := bs2 hf
        refine am_endi hS (am_runV (As := [.int v18, .int v19, .int x4]) X (hml.trans hl.1.symm) hS (cX12_isMoved_ok (l := l) (E := E) h1) mv_X12_352 hrc rfl ⟨Nat.le_trans (by decide) hRa, Nat.le_trans (by decide) hRb⟩ ⟨Nat.zero_le _, Nat.zero_le _⟩ rfl rfl (Nat.le_of_ble_eq_true rfl) dX12_isDone_44) (fun H locs hS => ?_)
        obtain ⟨v22, h1, hf⟩ := bs hf
        obtain ⟨rfl, h2⟩ := ckZ_n h1
        cases hf
        exact hret _ _ _ _ h2 dX12_isDone_47 hS
    · have hf := ifp hf q2
      refine lv_aload_n hx hb dX12_isDone_16 rfl (lv_at hl 0 rfl) ?_
      refine lv_iload_n hx hb dX12_isDone_17 rfl (lv_at hl 2 rfl) ?_
      refine lv_iload_n hx hb dX12_isDone_18 rfl (lv_at hl 3 rfl) ?_
      obtain ⟨u0, h0, hf⟩ := bs hf
      obtain ⟨_, hrc⟩ := isO_n h0
      obtain ⟨v23, m24, h1, hf⟩ := bs2 hf
      refine am_endi hS (am_runV (As := [.int x2, .int x3]) X (hml.trans hl.1.symm) hS (cX12_isJoined_ok (l := l) (E := E) h1) mv_X12_349 hrc rfl ⟨Nat.le_trans (by decide) hRa, Nat.le_trans (by decide) hRb⟩ ⟨Nat.zero_le _, Nat.zero_le _⟩ rfl rfl (Nat.le_of_ble_eq_true rfl) dX12_isDone_19) (fun H locs hS => ?_)
      obtain ⟨v25, h1, hf⟩ := bs hf
      obtain ⟨rfl, h2⟩ := ckZ_n h1
      cases hf
      exact hret _ _ _ _ h2 dX12_isDone_22 hS
  · have hf := ifp hf q1
    refine lv_aload_n hx hb dX12_isDone_4 rfl (lv_at hl 0 rfl) ?_
    refine lv_iload_n hx hb dX12_isDone_5 rfl (lv_at hl 2 rfl) ?_
    refine lv_iload_n hx hb dX12_isDone_6 rfl (lv_at hl 3 rfl) ?_
    obtain ⟨u0, h0, hf⟩ := bs hf
    obtain ⟨_, hrc⟩ := isO_n h0
    obtain ⟨v26, m27, h1, hf⟩ := bs2 hf
    refine am_endi hS (am_runV (As := [.int x2, .int x3]) X (hml.trans hl.1.symm) hS (cX12_isParted_ok (l := l) (E := E) h1) mv_X12_345 hrc rfl ⟨Nat.le_trans (by decide) hRa, Nat.le_trans (by decide) hRb⟩ ⟨Nat.zero_le _, Nat.zero_le _⟩ rfl rfl (Nat.le_of_ble_eq_true rfl) dX12_isDone_7) (fun H locs hS => ?_)
    obtain ⟨v28, h1, hf⟩ := bs hf
    obtain ⟨rfl, h2⟩ := ckZ_n h1
    cases hf
    exact hret _ _ _ _ h2 dX12_isDone_10 hS
set_option maxRecDepth 100000 in
theorem cX12_isDone_ok {l : Launch} {E : Ev} {x0 : Nat} {x1 : Int32} {x2 : Int32} {x3 : Int32} {x4 : Int32} {mm : Mem} {r : Int32} {mm1 : Mem} (hf : fX12_isDone (eS E) x0 x1 x2 x3 x4 mm = some (r, mm1)) : CtI l yX12_isDone cX12_isDone 5 (some .boolean) (7) (167) E [.ref x0, .int x1, .int x2, .int x3, .int x4] mm r mm1 := by
  refine Met.ofW (cc := cX12_isDone) (maxL := 5) (ret := (some .boolean)) (by decide) rfl ?_
  intro p e s m args below meth c s₁ B hml hv
  obtain ⟨rfl, X, hS, hr, hlocks⟩ := am_in B hv
  refine am_entry (Nat.le_of_ble_eq_true rfl) (fun ls hl => ?_)
  exact wX12_isDone X hml ⟨Nat.le_refl _, Nat.le_refl _⟩ hf (fun pc H locs ls hn hd hS => am_ri X hS hr hn hd hlocks) _ _ ls hS hl
set_option maxHeartbeats 4000000 in
set_option maxRecDepth 100000 in
theorem wX12_book {p : Program} {l : Launch} {e : Env} {R : Room} {s : State} {m : MethodId} {args : Array Value} {below : List Frame} {meth : Method} {c : Code} {Q : State → Prop} {E : Ev} (X : Cx p s m args c cX12_book RX12 E) (hml : c.maxLocals = 6) (hR : 2 ≤ R.frames ∧ 47 ≤ R.locals) {x0 : Nat} {x1 : Int32} {mm : Mem} {r : Int32} {mm1 : Mem} (hf : fX12_book (eS E) x0 x1 mm = some (r, mm1)) (hret : ∀ (pc : Nat) (H : Heap) (locs : List Loc) (ls : Array Slot), narrow .int (.int r) = .int r → decode cX12_book pc = .ok (.ireturn, 1) → wS E s mm1 H locs → W p l e R s m args below meth c H locs 0 0 Q (F0 m pc ls [.int r])) : ∀ (H : Heap) (locs : List Loc) (ls : Array Slot), wS E s mm H locs → lv_has ls 6 [(0, .ref x0), (1, .int x1)] → W p l e R s m args below meth c H locs 0 0 Q (F0 m 0 ls []) := by
  have hx := X.1
  have hb := X.2.1
  have hR1 := hR.1
  have hR2 := hR.2
  have hRa : 2 ≤ R.frames := by omega
  have hRb : 47 ≤ R.locals := by omega
  unfold fX12_book at hf
  have hj156 : ∀ (x0 : Nat) (x2 : Int32) (mm : Mem) (H : Heap) (locs : List Loc) (ls : Array Slot), fX12_book_j156 (eS E) x0 x2 mm = some (r, mm1) → wS E s mm H locs → lv_has ls 6 [(0, .ref x0), (2, .int x2)] → W p l e R s m args below meth c H locs 0 0 Q (F0 m 156 ls []) := by
    intro x0 x2 mm H locs ls hf hS hl
    unfold fX12_book_j156 at hf
    refine lv_aload_n hx hb dX12_book_156 rfl (lv_at hl 0 rfl) ?_
    refine lv_iload_n hx hb dX12_book_157 rfl (lv_at hl 1 rfl) ?_
    obtain ⟨u0, h0, hf⟩ := bs hf
    obtain ⟨_, hrc⟩ := isO_n h0
    obtain ⟨v1, m2, h1, hf⟩ := bs2 hf
    refine am_endi hS (am_runV (As := [.int x2]) X (hml.trans hl.1.symm) hS (cX12_result_ok (l := l) (E := E) h1) mv_X12_219 hrc rfl ⟨Nat.le_trans (by decide) hRa, Nat.le_trans (by decide) hRb⟩ ⟨Nat.zero_le _, Nat.zero_le _⟩ rfl rfl (Nat.le_of_ble_eq_true rfl) dX12_book_158) (fun H locs hS => ?_)
    refine lv_topi (fun x3_3 e1 => ?_)
    have hf := lt1_n e1 hf
    refine lv_istore_n (lv' := [(3, .int x3_3), (0, .ref x0), (2, .int x2)]) hx hb dX12_book_161 rfl hl (by decide) rfl (fun ls hl => ?_)
    refine lv_aload_n hx hb dX12_book_162 rfl (lv_at hl 1 rfl) ?_
    obtain ⟨v4, h1, hf⟩ := bs hf
    refine am_gi X hS fl_X12_98 rfl h1 dX12_book_163 ?_
    refine lv_iconst (v := (-1)) hx hb dX12_book_166 (by decide) ?_
    refine lv_icmp_eq (tgt := 172) hx hb dX12_book_167 (by decide) (fun q5 => ?_) (fun q5 => ?_)
    · have hf := ifp hf q5
      refine lv_aload_n hx hb dX12_book_172 rfl (lv_at hl 1 rfl) ?_
      refine lv_iload_n hx hb dX12_book_173 rfl (lv_at hl 2 rfl) ?_
      obtain ⟨m6, h1, hf⟩ := bs hf
      refine am_pi X hS fp_X12_166 rfl h1 dX12_book_174 (fun H locs hS => ?_)
      refine lv_aload_n hx hb dX12_book_177 rfl (lv_at hl 1 rfl) ?_
      refine lv_aload_n hx hb dX12_book_178 rfl (lv_at hl 1 rfl) ?_
      obtain ⟨a7, h1, hf⟩ := bs hf
      refine am_gr X hS fl_X12_71 rfl h1 dX12_book_179 ?_
      refine lv_aload_n hx hb dX12_book_182 rfl (lv_at hl 1 rfl) ?_
      obtain ⟨a8, h1, hf⟩ := bs hf
      refine am_gr X hS fl_X12_74 rfl h1 dX12_book_183 ?_
      refine lv_bipush (v := 16) hx hb dX12_book_186 (by decide) ?_
      obtain ⟨u0, h0, hf⟩ := bs hf
      obtain ⟨_, hrc⟩ := isO_n h0
      obtain ⟨m9, h1, hf⟩ := bs hf
      refine am_endv hS (am_runV (As := [.ref a7, .ref a8, .int 16]) X (hml.trans hl.1.symm) hS (cX12_copies_ok (l := l) (E := E) h1) mv_X12_159 hrc rfl ⟨Nat.le_trans (by decide) hRa, Nat.le_trans (by decide) hRb⟩ ⟨Nat.zero_le _, Nat.zero_le _⟩ rfl rfl (Nat.le_of_ble_eq_true rfl) dX12_book_188) (fun H locs hS => ?_)
      refine lv_iload_n hx hb dX12_book_191 rfl (lv_at hl 0 rfl) ?_
      cases hf
      exact hret _ _ _ _ rfl dX12_book_192 hS
    · have hf := ifn hf q5
      refine lv_iload_n hx hb dX12_book_170 rfl (lv_at hl 0 rfl) ?_
      cases hf
      exact hret _ _ _ _ rfl dX12_book_171 hS
  have hj125 : ∀ (x0 : Nat) (x2 : Int32) (mm : Mem) (H : Heap) (locs : List Loc) (ls : Array Slot), fX12_book_j125 (eS E) x0 x2 mm = some (r, mm1) → wS E s mm H locs → lv_has ls 6 [(0, .ref x0), (2, .int x2)] → W p l e R s m args below meth c H locs 0 0 Q (F0 m 125 ls []) := by
    intro x0 x2 mm H locs ls hf hS hl
    unfold fX12_book_j125 at hf
    refine lv_goto (tgt := 156) hx hb dX12_book_125 (by decide) ?_
    exact hj156 x0 x2 mm H locs ls hf hS hl
  have hj29 : ∀ (x0 : Nat) (x1 : Int32) (s0 : Nat) (s1 : Int32) (mm : Mem) (H : Heap) (locs : List Loc) (ls : Array Slot), fX12_book_j29 (eS E) x0 x1 s0 s1 mm = some (r, mm1) → wS E s mm H locs → lv_has ls 6 [(0, .ref x0), (1, .int x1)] → W p l e R s m args below meth c H locs 0 0 Q (F0 m 29 ls [.int s1, .ref s0]) := by
    intro x0 x1 s0 s1 mm H locs ls hf hS hl
    unfold fX12_book_j29 at hf
    refine lv_iconst (v := 1) hx hb dX12_book_29 (by decide) ?_
    refine lv_iconst (v := 1) hx hb dX12_book_30 (by decide) ?_
    obtain ⟨u0, h0, hf⟩ := bs hf
    obtain ⟨_, hrc⟩ := isO_n h0
    obtain ⟨v10, m11, h1, hf⟩ := bs2 hf
    refine am_endi hS (am_runV (As := [.int s1, .int 1, .int 1]) X (hml.trans hl.1.symm) hS (cX12_may_ok (l := l) (E := E) h1) mv_X12_190 hrc rfl ⟨Nat.le_trans (by decide) hRa, Nat.le_trans (by decide) hRb⟩ ⟨Nat.zero_le _, Nat.zero_le _⟩ rfl rfl (Nat.le_of_ble_eq_true rfl) dX12_book_31) (fun H locs hS => ?_)
    refine lv_if_ne (tgt := 39) hx hb dX12_book_34 (by decide) (fun q12 => ?_) (fun q12 => ?_)
    · have hf := ifn hf q12
      refine lv_aload_n hx hb dX12_book_39 rfl (lv_at hl 0 rfl) ?_
      refine lv_iload_n hx hb dX12_book_40 rfl (lv_at hl 1 rfl) ?_
      obtain ⟨u0, h0, hf⟩ := bs hf
      obtain ⟨_, hrc⟩ := isO_n h0
      obtain ⟨m13, h1, hf⟩ := bs hf
      refine am_endv hS (am_runV (As := [.int x1]) X (hml.trans hl.1.symm) hS (cX12_begins_ok (l := l) (E := E) h1) mv_X12_194 hrc rfl ⟨Nat.le_trans (by decide) hRa, Nat.le_trans (by decide) hRb⟩ ⟨Nat.zero_le _, Nat.zero_le _⟩ rfl rfl (Nat.le_of_ble_eq_true rfl) dX12_book_41) (fun H locs hS => ?_)
      refine lv_iconst (v := 0) hx hb dX12_book_44 (by decide) ?_
      refine lv_topi (fun x2_14 e1 => ?_)
      have hf := lt1_n e1 hf
      refine lv_istore_n (lv' := [(2, .int x2_14), (0, .ref x0), (1, .int x1)]) hx hb dX12_book_45 rfl hl (by decide) rfl (fun ls hl => ?_)
      obtain ⟨ex46, hl46, hk46⟩ := bs hf
      refine loop_W (P := fun st => ∀ (H : Heap) (locs : List Loc) (ls : Array Slot), wS E s st.2 H locs → lv_has ls 6 [(0, .ref x0), (2, .int st.1)] → W p l e R s m args below meth c H locs 0 0 Q (F0 m 46 ls [])) (ex := ex46) ?_ FU _ hl46 H locs ls hS (lv_sub hl [1, 0] rfl)
      intro st y46 hf hyL46 hyR46 H locs ls hS hl
      obtain ⟨x2, mm⟩ := st
      have hf : fX12_book_b46 (eS E) x0 x2 mm = some y46 := hf
      have hS : wS E s mm H locs := hS
      have hl : lv_has ls 6 [(0, .ref x0), (2, .int x2)] := hl
      unfold fX12_book_b46 at hf
      have hj102 : ∀ (x2 : Int32) (x4 : Int32) (mm : Mem) (H : Heap) (locs : List Loc) (ls : Array Slot), fX12_book_j102 (eS E) x0 x2 x4 mm = some y46 → wS E s mm H locs → lv_has ls 6 [(0, .ref x0), (2, .int x2), (4, .int x4)] → W p l e R s m args below meth c H locs 0 0 Q (F0 m 102 ls []) := by
        intro x2 x4 mm H locs ls hf hS hl
        unfold fX12_book_j102 at hf
        refine lv_aload_n hx hb dX12_book_102 rfl (lv_at hl 0 rfl) ?_
        refine lv_iconst (v := 0) hx hb dX12_book_103 (by decide) ?_
        refine lv_sipush (v := 400) hx hb dX12_book_104 (by decide) ?_
        obtain ⟨u0, h0, hf⟩ := bs hf
        obtain ⟨_, hrc⟩ := isO_n h0
        obtain ⟨v15, m16, h1, hf⟩ := bs2 hf
        refine am_endi hS (am_runV (As := [.int 0, .int 400]) X (hml.trans hl.1.symm) hS (cX12_readNumber_ok (l := l) (E := E) h1) mv_X12_186 hrc rfl ⟨Nat.le_trans (by decide) hRa, Nat.le_trans (by decide) hRb⟩ ⟨Nat.zero_le _, Nat.zero_le _⟩ rfl rfl (Nat.le_of_ble_eq_true rfl) dX12_book_107) (fun H locs hS => ?_)
        refine lv_topi (fun x5_17 e1 => ?_)
        have hf := lt1_n e1 hf
        refine lv_istore (lv' := [(5, .int x5_17), (0, .ref x0), (2, .int x2), (4, .int x4)]) hx hb dX12_book_110 hl (by decide) rfl (fun ls hl => ?_)
        refine lv_aload_n hx hb dX12_book_112 rfl (lv_at hl 1 rfl) ?_
        refine lv_bipush (v := 59) hx hb dX12_book_113 (by decide) ?_
        obtain ⟨u0, h0, hf⟩ := bs hf
        obtain ⟨_, hrc⟩ := isO_n h0
        obtain ⟨m18, h1, hf⟩ := bs hf
        refine am_endv hS (am_runV (As := [.int 59]) X (hml.trans hl.1.symm) hS (cX12_sign_ok (l := l) (E := E) h1) mv_X12_216 hrc rfl ⟨Nat.le_trans (by decide) hRa, Nat.le_trans (by decide) hRb⟩ ⟨Nat.zero_le _, Nat.zero_le _⟩ rfl rfl (Nat.le_of_ble_eq_true rfl) dX12_book_115) (fun H locs hS => ?_)
        refine lv_aload_n hx hb dX12_book_118 rfl (lv_at hl 1 rfl) ?_
        obtain ⟨u0, h0, hf⟩ := bs hf
        obtain ⟨_, hrc⟩ := isO_n h0
        obtain ⟨v19, h1, hf⟩ := bs hf
        refine am_endi hS (am_runV (As := []) X (hml.trans hl.1.symm) hS (cX12_fine_ok (l := l) (E := E) h1) mv_X12_127 hrc rfl ⟨Nat.le_trans (by decide) hRa, Nat.le_trans (by decide) hRb⟩ ⟨Nat.zero_le _, Nat.zero_le _⟩ rfl rfl (Nat.le_of_ble_eq_true rfl) dX12_book_119) (fun H locs hS => ?_)
        refine lv_if_ne (tgt := 128) hx hb dX12_book_122 (by decide) (fun q20 => ?_) (fun q20 => ?_)
        · have hf := ifn hf q20
          refine lv_aload_n hx hb dX12_book_128 rfl (lv_at hl 1 rfl) ?_
          obtain ⟨a21, h1, hf⟩ := bs hf
          refine am_gr X hS fl_X12_71 rfl h1 dX12_book_129 ?_
          refine lv_iconst (v := 2) hx hb dX12_book_132 (by decide) ?_
          refine lv_iload_n hx hb dX12_book_133 rfl (lv_at hl 2 rfl) ?_
          refine lv_imul hx hb dX12_book_134 ?_
          refine lv_iload hx hb dX12_book_135 (lv_at hl 3 rfl) ?_
          obtain ⟨m22, h1, hf⟩ := bs hf
          refine am_ast X hS h1 dX12_book_137 (fun H locs hS => ?_)
          refine lv_aload_n hx hb dX12_book_138 rfl (lv_at hl 1 rfl) ?_
          obtain ⟨a23, h1, hf⟩ := bs hf
          refine am_gr X hS fl_X12_71 rfl h1 dX12_book_139 ?_
          refine lv_iconst (v := 2) hx hb dX12_book_142 (by decide) ?_
          refine lv_iload_n hx hb dX12_book_143 rfl (lv_at hl 2 rfl) ?_
          refine lv_imul hx hb dX12_book_144 ?_
          refine lv_iconst (v := 1) hx hb dX12_book_145 (by decide) ?_
          refine lv_iadd hx hb dX12_book_146 ?_
          refine lv_iload hx hb dX12_book_147 (lv_at hl 0 rfl) ?_
          obtain ⟨m24, h1, hf⟩ := bs hf
          refine am_ast X hS h1 dX12_book_149 (fun H locs hS => ?_)
          obtain ⟨x2_25, e1⟩ : ∃ z : Int32, z = x2 + 1 := ⟨_, rfl⟩
          have hf := lt1_n e1 hf
          refine lv_iinc (v := x2_25) (lv' := [(2, .int x2_25), (5, .int x5_17), (0, .ref x0), (4, .int x4)]) hx hb dX12_book_150 hl (k := 2) rfl (by rw [e1]; rfl) (by decide) rfl (fun ls hl => ?_)
          refine lv_goto (tgt := 46) hx hb dX12_book_153 (by decide) ?_
          exact hyL46 _ (Option.some.inj hf).symm H locs ls hS (lv_sub hl [2, 0] rfl)
        · have hf := ifp hf q20
          obtain rfl : Sum.inl (x2, m18) = ex46 := hyR46 _ (Option.some.inj hf).symm
          exact hj125 x0 x2 m18 H locs ls hk46 hS (lv_sub hl [1, 2] rfl)
      refine lv_aload_n hx hb dX12_book_46 rfl (lv_at hl 0 rfl) ?_
      obtain ⟨u0, h0, hf⟩ := bs hf
      obtain ⟨_, hrc⟩ := isO_n h0
      obtain ⟨v26, h1, hf⟩ := bs hf
      refine am_endi hS (am_runV (As := []) X (hml.trans hl.1.symm) hS (cX12_fine_ok (l := l) (E := E) h1) mv_X12_127 hrc rfl ⟨Nat.le_trans (by decide) hRa, Nat.le_trans (by decide) hRb⟩ ⟨Nat.zero_le _, Nat.zero_le _⟩ rfl rfl (Nat.le_of_ble_eq_true rfl) dX12_book_47) (fun H locs hS => ?_)
      refine lv_if_eq (tgt := 156) hx hb dX12_book_50 (by decide) (fun q27 => ?_) (fun q27 => ?_)
      · have hf := ifp hf q27
        obtain rfl : Sum.inr ((x2, mm)) = ex46 := hyR46 _ (Option.some.inj hf).symm
        exact hj156 x0 x2 mm H locs ls hk46 hS hl
      · have hf := ifn hf q27
        refine lv_aload_n hx hb dX12_book_53 rfl (lv_at hl 0 rfl) ?_
        obtain ⟨u0, h0, hf⟩ := bs hf
        obtain ⟨_, hrc⟩ := isO_n h0
        obtain ⟨v28, m29, h1, hf⟩ := bs2 hf
        refine am_endi hS (am_runV (As := []) X (hml.trans hl.1.symm) hS (cX12_isMore_ok (l := l) (E := E) h1) mv_X12_198 hrc rfl ⟨Nat.le_trans (by decide) hRa, Nat.le_trans (by decide) hRb⟩ ⟨Nat.zero_le _, Nat.zero_le _⟩ rfl rfl (Nat.le_of_ble_eq_true rfl) dX12_book_54) (fun H locs hS => ?_)
        refine lv_if_eq (tgt := 156) hx hb dX12_book_57 (by decide) (fun q30 => ?_) (fun q30 => ?_)
        · have hf := ifp hf q30
          obtain rfl : Sum.inr ((x2, m29)) = ex46 := hyR46 _ (Option.some.inj hf).symm
          exact hj156 x0 x2 m29 H locs ls hk46 hS hl
        · have hf := ifn hf q30
          refine lv_aload_n hx hb dX12_book_60 rfl (lv_at hl 0 rfl) ?_
          obtain ⟨u0, h0, hf⟩ := bs hf
          obtain ⟨_, hrc⟩ := isO_n h0
          obtain ⟨v31, m32, h1, hf⟩ := bs2 hf
          refine am_endi hS (am_runV (As := []) X (hml.trans hl.1.symm) hS (cX12_here_ok (l := l) (E := E) h1) mv_X12_110 hrc rfl ⟨Nat.le_trans (by decide) hRa, Nat.le_trans (by decide) hRb⟩ ⟨Nat.zero_le _, Nat.zero_le _⟩ rfl rfl (Nat.le_of_ble_eq_true rfl) dX12_book_61) (fun H locs hS => ?_)
          refine lv_pop hx hb dX12_book_64 rfl ?_
          refine lv_aload_n hx hb dX12_book_65 rfl (lv_at hl 0 rfl) ?_
          obtain ⟨v33, h1, hf⟩ := bs hf
          refine am_gi X hS fl_X12_104 rfl h1 dX12_book_66 ?_
          refine lv_topi (fun x3_34 e1 => ?_)
          have hf := lt1_n e1 hf
          refine lv_istore_n (lv' := [(3, .int x3_34), (0, .ref x0), (2, .int x2)]) hx hb dX12_book_69 rfl hl (by decide) rfl (fun ls hl => ?_)
          refine lv_aload_n hx hb dX12_book_70 rfl (lv_at hl 1 rfl) ?_
          refine lv_iconst (v := 0) hx hb dX12_book_71 (by decide) ?_
          refine lv_aload_n hx hb dX12_book_72 rfl (lv_at hl 1 rfl) ?_
          obtain ⟨v35, h1, hf⟩ := bs hf
          refine am_gi X hS fl_X12_156 rfl h1 dX12_book_73 ?_
          refine lv_iconst (v := 1) hx hb dX12_book_76 (by decide) ?_
          refine lv_isub hx hb dX12_book_77 ?_
          obtain ⟨u0, h0, hf⟩ := bs hf
          obtain ⟨_, hrc⟩ := isO_n h0
          obtain ⟨v36, m37, h1, hf⟩ := bs2 hf
          refine am_endi hS (am_runV (As := [.int 0, .int (v35 - 1)]) X (hml.trans hl.1.symm) hS (cX12_readNumber_ok (l := l) (E := E) h1) mv_X12_186 hrc rfl ⟨Nat.le_trans (by decide) hRa, Nat.le_trans (by decide) hRb⟩ ⟨Nat.zero_le _, Nat.zero_le _⟩ rfl rfl (Nat.le_of_ble_eq_true rfl) dX12_book_78) (fun H locs hS => ?_)
          refine lv_topi (fun x4_38 e1 => ?_)
          have hf := lt1_n e1 hf
          refine lv_istore (lv' := [(4, .int x4_38), (3, .int x3_34), (0, .ref x0), (2, .int x2)]) hx hb dX12_book_81 hl (by decide) rfl (fun ls hl => ?_)
          refine lv_aload_n hx hb dX12_book_83 rfl (lv_at hl 2 rfl) ?_
          obtain ⟨u0, h0, hf⟩ := bs hf
          obtain ⟨_, hrc⟩ := isO_n h0
          obtain ⟨v39, h1, hf⟩ := bs hf
          refine am_endi hS (am_runV (As := []) X (hml.trans hl.1.symm) hS (cX12_fine_ok (l := l) (E := E) h1) mv_X12_127 hrc rfl ⟨Nat.le_trans (by decide) hRa, Nat.le_trans (by decide) hRb⟩ ⟨Nat.zero_le _, Nat.zero_le _⟩ rfl rfl (Nat.le_of_ble_eq_true rfl) dX12_book_84) (fun H locs hS => ?_)
          refine lv_if_eq (tgt := 102) hx hb dX12_book_87 (by decide) (fun q40 => ?_) (fun q40 => ?_)
          · have hf := ifp hf q40
            exact hj102 x2 x4_38 m37 H locs ls hf hS (lv_sub hl [2, 3, 0] rfl)
          · have hf := ifn hf q40
            refine lv_iload_n hx hb dX12_book_90 rfl (lv_at hl 3 rfl) ?_
            refine lv_bipush (v := 8) hx hb dX12_book_91 (by decide) ?_
            refine lv_icmp_ne (tgt := 102) hx hb dX12_book_93 (by decide) (fun q41 => ?_) (fun q41 => ?_)
            · have hf := ifn hf q41
              exact hj102 x2 x4_38 m37 H locs ls hf hS (lv_sub hl [2, 3, 0] rfl)
            · have hf := ifp hf q41
              refine lv_aload_n hx hb dX12_book_96 rfl (lv_at hl 2 rfl) ?_
              refine lv_iconst (v := 3) hx hb dX12_book_97 (by decide) ?_
              refine lv_iload_n hx hb dX12_book_98 rfl (lv_at hl 1 rfl) ?_
              obtain ⟨u0, h0, hf⟩ := bs hf
              obtain ⟨_, hrc⟩ := isO_n h0
              obtain ⟨m42, h1, hf⟩ := bs hf
              refine am_endv hS (am_runV (As := [.int 3, .int x3_34]) X (hml.trans hl.1.symm) hS (cX12_wrong_ok (l := l) (E := E) h1) mv_X12_134 hrc rfl ⟨Nat.le_trans (by decide) hRa, Nat.le_trans (by decide) hRb⟩ ⟨Nat.zero_le _, Nat.zero_le _⟩ rfl rfl (Nat.le_of_ble_eq_true rfl) dX12_book_99) (fun H locs hS => ?_)
              exact hj102 x2 x4_38 m42 H locs ls hf hS (lv_sub hl [2, 3, 0] rfl)
    · have hf := ifp hf q12
      refine lv_iconst (v := 0) hx hb dX12_book_37 (by decide) ?_
      cases hf
      exact hret _ _ _ _ rfl dX12_book_38 hS
  have hj28 : ∀ (x0 : Nat) (x1 : Int32) (s0 : Nat) (mm : Mem) (H : Heap) (locs : List Loc) (ls : Array Slot), fX12_book_j28 (eS E) x0 x1 s0 mm = some (r, mm1) → wS E s mm H locs → lv_has ls 6 [(0, .ref x0), (1, .int x1)] → W p l e R s m args below meth c H locs 0 0 Q (F0 m 28 ls [.ref s0]) := by
    intro x0 x1 s0 mm H locs ls hf hS hl
    unfold fX12_book_j28 at hf
    refine lv_iconst (v := 0) hx hb dX12_book_28 (by decide) ?_
    exact hj29 x0 x1 s0 0 mm H locs ls hf hS hl
  intro H locs ls hS hl
  refine lv_aload_n hx hb dX12_book_0 rfl (lv_at hl 0 rfl) ?_
  refine lv_iconst (v := 0) hx hb dX12_book_1 (by decide) ?_
  obtain ⟨m43, h1, hf⟩ := bs hf
  refine am_pi X hS fp_X12_3 rfl h1 dX12_book_2 (fun H locs hS => ?_)
  refine lv_aload_n hx hb dX12_book_5 rfl (lv_at hl 0 rfl) ?_
  refine lv_iload_n hx hb dX12_book_6 rfl (lv_at hl 1 rfl) ?_
  refine lv_if_lt (tgt := 28) hx hb dX12_book_7 (by decide) (fun q44 => ?_) (fun q44 => ?_)
  · have hf := ifp hf q44
    exact hj28 x0 x1 x0 m43 H locs ls hf hS hl
  · have hf := ifn hf q44
    refine lv_iload_n hx hb dX12_book_10 rfl (lv_at hl 1 rfl) ?_
    refine lv_aload_n hx hb dX12_book_11 rfl (lv_at hl 0 rfl) ?_
    obtain ⟨v45, h1, hf⟩ := bs hf
    refine am_gi X hS fl_X12_95 rfl h1 dX12_book_12 ?_
    refine lv_icmp_gt (tgt := 28) hx hb dX12_book_15 (by decide) (fun q46 => ?_) (fun q46 => ?_)
    · have hf := ifp hf q46
      exact hj28 x0 x1 x0 m43 H locs ls hf hS hl
    · have hf := ifn hf q46
      refine lv_iload_n hx hb dX12_book_18 rfl (lv_at hl 1 rfl) ?_
      refine lv_bipush (v := 60) hx hb dX12_book_19 (by decide) ?_
      refine lv_icmp_gt (tgt := 28) hx hb dX12_book_21 (by decide) (fun q47 => ?_) (fun q47 => ?_)
      · have hf := ifp hf q47
        exact hj28 x0 x1 x0 m43 H locs ls hf hS hl
      · have hf := ifn hf q47
        refine lv_iconst (v := 1) hx hb dX12_book_24 (by decide) ?_
        refine lv_goto (tgt := 29) hx hb dX12_book_25 (by decide) ?_
        exact hj29 x0 x1 x0 1 m43 H locs ls hf hS hl
set_option maxRecDepth 100000 in
theorem cX12_book_ok {l : Launch} {E : Ev} {x0 : Nat} {x1 : Int32} {mm : Mem} {r : Int32} {mm1 : Mem} (hf : fX12_book (eS E) x0 x1 mm = some (r, mm1)) : CtI l yX12_book cX12_book 6 (some .int) (2) (47) E [.ref x0, .int x1] mm r mm1 := by
  refine Met.ofW (cc := cX12_book) (maxL := 6) (ret := (some .int)) (by decide) rfl ?_
  intro p e s m args below meth c s₁ B hml hv
  obtain ⟨rfl, X, hS, hr, hlocks⟩ := am_in B hv
  refine am_entry (Nat.le_of_ble_eq_true rfl) (fun ls hl => ?_)
  exact wX12_book X hml ⟨Nat.le_refl _, Nat.le_refl _⟩ hf (fun pc H locs ls hn hd hS => am_ri X hS hr hn hd hlocks) _ _ ls hS hl
set_option maxHeartbeats 4000000 in
set_option maxRecDepth 100000 in
theorem wX12_undo {p : Program} {l : Launch} {e : Env} {R : Room} {s : State} {m : MethodId} {args : Array Value} {below : List Frame} {meth : Method} {c : Code} {Q : State → Prop} {E : Ev} (X : Cx p s m args c cX12_undo RX12 E) (hml : c.maxLocals = 2) (hR : 0 ≤ R.frames ∧ 0 ≤ R.locals) {x0 : Nat} {mm : Mem} {r : Int32} {mm1 : Mem} (hf : fX12_undo (eS E) x0 mm = some (r, mm1)) (hret : ∀ (pc : Nat) (H : Heap) (locs : List Loc) (ls : Array Slot), narrow .int (.int r) = .int r → decode cX12_undo pc = .ok (.ireturn, 1) → wS E s mm1 H locs → W p l e R s m args below meth c H locs 0 0 Q (F0 m pc ls [.int r])) : ∀ (H : Heap) (locs : List Loc) (ls : Array Slot), wS E s mm H locs → lv_has ls 2 [(0, .ref x0)] → W p l e R s m args below meth c H locs 0 0 Q (F0 m 0 ls []) := by
  have hx := X.1
  have hb := X.2.1
  have hR1 := hR.1
  have hR2 := hR.2
  have hRa : 0 ≤ R.frames := by omega
  have hRb : 0 ≤ R.locals := by omega
  unfold fX12_undo at hf
  have hj60 : ∀ (x0 : Nat) (mm : Mem) (H : Heap) (locs : List Loc) (ls : Array Slot), fX12_undo_j60 (eS E) x0 mm = some (r, mm1) → wS E s mm H locs → lv_has ls 2 [(0, .ref x0)] → W p l e R s m args below meth c H locs 0 0 Q (F0 m 60 ls []) := by
    intro x0 mm H locs ls hf hS hl
    unfold fX12_undo_j60 at hf
    refine lv_aload_n hx hb dX12_undo_60 rfl (lv_at hl 0 rfl) ?_
    refine lv_iconst (v := 0) hx hb dX12_undo_61 (by decide) ?_
    obtain ⟨m1, h1, hf⟩ := bs hf
    refine am_pi X hS fp_X12_175 rfl h1 dX12_undo_62 (fun H locs hS => ?_)
    refine lv_aload_n hx hb dX12_undo_65 rfl (lv_at hl 0 rfl) ?_
    obtain ⟨v2, h1, hf⟩ := bs hf
    refine am_gi X hS fl_X12_169 rfl h1 dX12_undo_66 ?_
    cases hf
    exact hret _ _ _ _ rfl dX12_undo_69 hS
  intro H locs ls hS hl
  refine lv_aload_n hx hb dX12_undo_0 rfl (lv_at hl 0 rfl) ?_
  refine lv_iconst (v := 0) hx hb dX12_undo_1 (by decide) ?_
  obtain ⟨m3, h1, hf⟩ := bs hf
  refine am_pi X hS fp_X12_3 rfl h1 dX12_undo_2 (fun H locs hS => ?_)
  refine lv_aload_n hx hb dX12_undo_5 rfl (lv_at hl 0 rfl) ?_
  obtain ⟨v4, h1, hf⟩ := bs hf
  refine am_gi X hS fl_X12_169 rfl h1 dX12_undo_6 ?_
  refine lv_if_ne (tgt := 14) hx hb dX12_undo_9 (by decide) (fun q5 => ?_) (fun q5 => ?_)
  · have hf := ifn hf q5
    refine lv_aload_n hx hb dX12_undo_14 rfl (lv_at hl 0 rfl) ?_
    refine lv_dup hx hb dX12_undo_15 rfl ?_
    obtain ⟨v6, h1, hf⟩ := bs hf
    refine am_gi X hS fl_X12_169 rfl h1 dX12_undo_16 ?_
    refine lv_iconst (v := 1) hx hb dX12_undo_19 (by decide) ?_
    refine lv_isub hx hb dX12_undo_20 ?_
    obtain ⟨m7, h1, hf⟩ := bs hf
    refine am_pi X hS fp_X12_169 rfl h1 dX12_undo_21 (fun H locs hS => ?_)
    refine lv_iconst (v := 0) hx hb dX12_undo_24 (by decide) ?_
    refine lv_topi (fun x1_8 e1 => ?_)
    have hf := lt1_n e1 hf
    refine lv_istore_n (lv' := [(1, .int x1_8), (0, .ref x0)]) hx hb dX12_undo_25 rfl hl (by decide) rfl (fun ls hl => ?_)
    obtain ⟨ex26, hl26, hk26⟩ := bs hf
    refine loop_W (P := fun st => ∀ (H : Heap) (locs : List Loc) (ls : Array Slot), wS E s st.2 H locs → lv_has ls 2 [(0, .ref x0), (1, .int st.1)] → W p l e R s m args below meth c H locs 0 0 Q (F0 m 26 ls [])) (ex := ex26) ?_ FU _ hl26 H locs ls hS (lv_sub hl [1, 0] rfl)
    intro st y26 hf hyL26 hyR26 H locs ls hS hl
    obtain ⟨x1, mm⟩ := st
    have hf : fX12_undo_b26 (eS E) x0 x1 mm = some y26 := hf
    have hS : wS E s mm H locs := hS
    have hl : lv_has ls 2 [(0, .ref x0), (1, .int x1)] := hl
    unfold fX12_undo_b26 at hf
    refine lv_iload_n hx hb dX12_undo_26 rfl (lv_at hl 1 rfl) ?_
    refine lv_sipush (v := 175) hx hb dX12_undo_27 (by decide) ?_
    refine lv_icmp_ge (tgt := 60) hx hb dX12_undo_30 (by decide) (fun q9 => ?_) (fun q9 => ?_)
    · have hf := ifp hf q9
      obtain rfl : mm = ex26 := hyR26 _ (Option.some.inj hf).symm
      exact hj60 x0 mm H locs ls hk26 hS (lv_sub hl [0] rfl)
    · have hf := ifn hf q9
      refine lv_aload_n hx hb dX12_undo_33 rfl (lv_at hl 0 rfl) ?_
      obtain ⟨a10, h1, hf⟩ := bs hf
      refine am_gr X hS fl_X12_59 rfl h1 dX12_undo_34 ?_
      refine lv_iload_n hx hb dX12_undo_37 rfl (lv_at hl 1 rfl) ?_
      refine lv_aload_n hx hb dX12_undo_38 rfl (lv_at hl 0 rfl) ?_
      obtain ⟨a11, h1, hf⟩ := bs hf
      refine am_gr X hS fl_X12_65 rfl h1 dX12_undo_39 ?_
      refine lv_sipush (v := 175) hx hb dX12_undo_42 (by decide) ?_
      refine lv_aload_n hx hb dX12_undo_45 rfl (lv_at hl 0 rfl) ?_
      obtain ⟨v12, h1, hf⟩ := bs hf
      refine am_gi X hS fl_X12_169 rfl h1 dX12_undo_46 ?_
      refine lv_imul hx hb dX12_undo_49 ?_
      refine lv_iload_n hx hb dX12_undo_50 rfl (lv_at hl 1 rfl) ?_
      refine lv_iadd hx hb dX12_undo_51 ?_
      obtain ⟨v13, h1, hf⟩ := bs hf
      refine am_ald X hS h1 dX12_undo_52 ?_
      obtain ⟨m14, h1, hf⟩ := bs hf
      refine am_ast X hS h1 dX12_undo_53 (fun H locs hS => ?_)
      obtain ⟨x1_15, e1⟩ : ∃ z : Int32, z = x1 + 1 := ⟨_, rfl⟩
      have hf := lt1_n e1 hf
      refine lv_iinc (v := x1_15) (lv' := [(1, .int x1_15), (0, .ref x0)]) hx hb dX12_undo_54 hl (k := 1) rfl (by rw [e1]; rfl) (by decide) rfl (fun ls hl => ?_)
      refine lv_goto (tgt := 26) hx hb dX12_undo_57 (by decide) ?_
      exact hyL26 _ (Option.some.inj hf).symm H locs ls hS (lv_sub hl [1, 0] rfl)
  · have hf := ifp hf q5
    refine lv_iconst (v := (-1)) hx hb dX12_undo_12 (by decide) ?_
    cases hf
    exact hret _ _ _ _ rfl dX12_undo_13 hS
set_option maxRecDepth 100000 in
theorem cX12_undo_ok {l : Launch} {E : Ev} {x0 : Nat} {mm : Mem} {r : Int32} {mm1 : Mem} (hf : fX12_undo (eS E) x0 mm = some (r, mm1)) : CtI l yX12_undo cX12_undo 2 (some .int) (0) (0) E [.ref x0] mm r mm1 := by
  refine Met.ofW (cc := cX12_undo) (maxL := 2) (ret := (some .int)) (by decide) rfl ?_
  intro p e s m args below meth c s₁ B hml hv
  obtain ⟨rfl, X, hS, hr, hlocks⟩ := am_in B hv
  refine am_entry (Nat.le_of_ble_eq_true rfl) (fun ls hl => ?_)
  exact wX12_undo X hml ⟨Nat.le_refl _, Nat.le_refl _⟩ hf (fun pc H locs ls hn hd hS => am_ri X hS hr hn hd hlocks) _ _ ls hS hl
set_option maxHeartbeats 4000000 in
set_option maxRecDepth 100000 in
theorem wX12_isWhite {p : Program} {l : Launch} {e : Env} {R : Room} {s : State} {m : MethodId} {args : Array Value} {below : List Frame} {meth : Method} {c : Code} {Q : State → Prop} {E : Ev} (X : Cx p s m args c cX12_isWhite RX12 E) (hml : c.maxLocals = 4) (hR : 1 ≤ R.frames ∧ 22 ≤ R.locals) {x0 : Nat} {x1 : Int32} {mm : Mem} {r : Int32} (hf : fX12_isWhite (eS E) x0 x1 mm = some r) (hret : ∀ (pc : Nat) (H : Heap) (locs : List Loc) (ls : Array Slot), narrow .boolean (.int r) = .int r → decode cX12_isWhite pc = .ok (.ireturn, 1) → wS E s mm H locs → W p l e R s m args below meth c H locs 0 0 Q (F0 m pc ls [.int r])) : ∀ (H : Heap) (locs : List Loc) (ls : Array Slot), wS E s mm H locs → lv_has ls 4 [(0, .ref x0), (1, .int x1)] → W p l e R s m args below meth c H locs 0 0 Q (F0 m 0 ls []) := by
  have hx := X.1
  have hb := X.2.1
  have hR1 := hR.1
  have hR2 := hR.2
  have hRa : 1 ≤ R.frames := by omega
  have hRb : 22 ≤ R.locals := by omega
  unfold fX12_isWhite at hf
  have hj69 : ∀ (x2 : Int32) (H : Heap) (locs : List Loc) (ls : Array Slot), fX12_isWhite_j69 (eS E) x2 mm = some r → wS E s mm H locs → lv_has ls 4 [(2, .int x2)] → W p l e R s m args below meth c H locs 0 0 Q (F0 m 69 ls []) := by
    intro x2 H locs ls hf hS hl
    unfold fX12_isWhite_j69 at hf
    refine lv_iload_n hx hb dX12_isWhite_69 rfl (lv_at hl 0 rfl) ?_
    obtain ⟨v1, h1, hf⟩ := bs hf
    obtain ⟨rfl, h2⟩ := ckZ_n h1
    cases hf
    exact hret _ _ _ _ h2 dX12_isWhite_70 hS
  have hj19 : ∀ (x0 : Nat) (x1 : Int32) (s0 : Int32) (H : Heap) (locs : List Loc) (ls : Array Slot), fX12_isWhite_j19 (eS E) x0 x1 s0 mm = some r → wS E s mm H locs → lv_has ls 4 [(0, .ref x0), (1, .int x1)] → W p l e R s m args below meth c H locs 0 0 Q (F0 m 19 ls [.int s0]) := by
    intro x0 x1 s0 H locs ls hf hS hl
    unfold fX12_isWhite_j19 at hf
    refine lv_topi (fun x2_2 e1 => ?_)
    have hf := lt1_n e1 hf
    refine lv_istore_n (lv' := [(2, .int x2_2), (0, .ref x0), (1, .int x1)]) hx hb dX12_isWhite_19 rfl hl (by decide) rfl (fun ls hl => ?_)
    refine lv_iconst (v := 1) hx hb dX12_isWhite_20 (by decide) ?_
    refine lv_topi (fun x3_3 e1 => ?_)
    have hf := lt1_n e1 hf
    refine lv_istore_n (lv' := [(3, .int x3_3), (2, .int x2_2), (0, .ref x0), (1, .int x1)]) hx hb dX12_isWhite_21 rfl hl (by decide) rfl (fun ls hl => ?_)
    obtain ⟨ex22, hl22, hk22⟩ := bs hf
    refine loop_W (P := fun st => ∀ (H : Heap) (locs : List Loc) (ls : Array Slot), wS E s mm H locs → lv_has ls 4 [(0, .ref x0), (1, .int x1), (2, .int st.1), (3, .int st.2)] → W p l e R s m args below meth c H locs 0 0 Q (F0 m 22 ls [])) (ex := ex22) ?_ FU _ hl22 H locs ls hS (lv_sub hl [2, 3, 1, 0] rfl)
    intro st y22 hf hyL22 hyR22 H locs ls hS hl
    obtain ⟨x2, x3⟩ := st
    have hf : fX12_isWhite_b22 (eS E) x0 x1 x2 x3 mm = some y22 := hf
    have hS : wS E s mm H locs := hS
    have hl : lv_has ls 4 [(0, .ref x0), (1, .int x1), (2, .int x2), (3, .int x3)] := hl
    unfold fX12_isWhite_b22 at hf
    have hj62 : ∀ (x3 : Int32) (s0 : Int32) (H : Heap) (locs : List Loc) (ls : Array Slot), fX12_isWhite_j62 (eS E) x0 x1 x3 s0 mm = some y22 → wS E s mm H locs → lv_has ls 4 [(0, .ref x0), (1, .int x1), (3, .int x3)] → W p l e R s m args below meth c H locs 0 0 Q (F0 m 62 ls [.int s0]) := by
      intro x3 s0 H locs ls hf hS hl
      unfold fX12_isWhite_j62 at hf
      refine lv_topi (fun x2_4 e1 => ?_)
      have hf := lt1_n e1 hf
      refine lv_istore_n (lv' := [(2, .int x2_4), (0, .ref x0), (1, .int x1), (3, .int x3)]) hx hb dX12_isWhite_62 rfl hl (by decide) rfl (fun ls hl => ?_)
      obtain ⟨x3_5, e1⟩ : ∃ z : Int32, z = x3 + 1 := ⟨_, rfl⟩
      have hf := lt1_n e1 hf
      refine lv_iinc (v := x3_5) (lv' := [(3, .int x3_5), (2, .int x2_4), (0, .ref x0), (1, .int x1)]) hx hb dX12_isWhite_63 hl (k := 3) rfl (by rw [e1]; rfl) (by decide) rfl (fun ls hl => ?_)
      refine lv_goto (tgt := 22) hx hb dX12_isWhite_66 (by decide) ?_
      exact hyL22 _ (Option.some.inj hf).symm H locs ls hS (lv_sub hl [2, 3, 1, 0] rfl)
    have hj61 : ∀ (x3 : Int32) (H : Heap) (locs : List Loc) (ls : Array Slot), fX12_isWhite_j61 (eS E) x0 x1 x3 mm = some y22 → wS E s mm H locs → lv_has ls 4 [(0, .ref x0), (1, .int x1), (3, .int x3)] → W p l e R s m args below meth c H locs 0 0 Q (F0 m 61 ls []) := by
      intro x3 H locs ls hf hS hl
      unfold fX12_isWhite_j61 at hf
      refine lv_iconst (v := 0) hx hb dX12_isWhite_61 (by decide) ?_
      exact hj62 x3 0 H locs ls hf hS hl
    refine lv_iload_n hx hb dX12_isWhite_22 rfl (lv_at hl 3 rfl) ?_
    refine lv_bipush (v := 7) hx hb dX12_isWhite_23 (by decide) ?_
    refine lv_icmp_ge (tgt := 69) hx hb dX12_isWhite_25 (by decide) (fun q6 => ?_) (fun q6 => ?_)
    · have hf := ifp hf q6
      obtain rfl : x2 = ex22 := hyR22 _ (Option.some.inj hf).symm
      exact hj69 x2 H locs ls hk22 hS (lv_sub hl [2] rfl)
    · have hf := ifn hf q6
      refine lv_iload_n hx hb dX12_isWhite_28 rfl (lv_at hl 2 rfl) ?_
      refine lv_if_eq (tgt := 61) hx hb dX12_isWhite_29 (by decide) (fun q7 => ?_) (fun q7 => ?_)
      · have hf := ifp hf q7
        exact hj61 x3 H locs ls hf hS (lv_sub hl [0, 1, 3] rfl)
      · have hf := ifn hf q7
        refine lv_aload_n hx hb dX12_isWhite_32 rfl (lv_at hl 0 rfl) ?_
        obtain ⟨a8, h1, hf⟩ := bs hf
        refine am_gr X hS fl_X12_62 rfl h1 dX12_isWhite_33 ?_
        refine lv_iconst (v := 0) hx hb dX12_isWhite_36 (by decide) ?_
        refine lv_iload_n hx hb dX12_isWhite_37 rfl (lv_at hl 1 rfl) ?_
        refine lv_iload_n hx hb dX12_isWhite_38 rfl (lv_at hl 3 rfl) ?_
        obtain ⟨v9, h1, hf⟩ := bs hf
        refine am_endi hS (am_runS (As := [.int 0, .int x1, .int x3]) X (hml.trans hl.1.symm) hS (cX12_in_ok (l := l) (E := E) h1) ms_X12_319 ⟨Nat.le_trans (by decide) hRa, Nat.le_trans (by decide) hRb⟩ ⟨Nat.zero_le _, Nat.zero_le _⟩ rfl rfl (Nat.le_of_ble_eq_true rfl) dX12_isWhite_39) (fun H locs hS => ?_)
        obtain ⟨v10, h1, hf⟩ := bs hf
        refine am_ald X hS h1 dX12_isWhite_42 ?_
        refine lv_aload_n hx hb dX12_isWhite_43 rfl (lv_at hl 0 rfl) ?_
        obtain ⟨a11, h1, hf⟩ := bs hf
        refine am_gr X hS fl_X12_62 rfl h1 dX12_isWhite_44 ?_
        refine lv_iconst (v := 0) hx hb dX12_isWhite_47 (by decide) ?_
        refine lv_iload_n hx hb dX12_isWhite_48 rfl (lv_at hl 1 rfl) ?_
        refine lv_iconst (v := 0) hx hb dX12_isWhite_49 (by decide) ?_
        obtain ⟨v12, h1, hf⟩ := bs hf
        refine am_endi hS (am_runS (As := [.int 0, .int x1, .int 0]) X (hml.trans hl.1.symm) hS (cX12_in_ok (l := l) (E := E) h1) ms_X12_319 ⟨Nat.le_trans (by decide) hRa, Nat.le_trans (by decide) hRb⟩ ⟨Nat.zero_le _, Nat.zero_le _⟩ rfl rfl (Nat.le_of_ble_eq_true rfl) dX12_isWhite_50) (fun H locs hS => ?_)
        obtain ⟨v13, h1, hf⟩ := bs hf
        refine am_ald X hS h1 dX12_isWhite_53 ?_
        refine lv_icmp_ne (tgt := 61) hx hb dX12_isWhite_54 (by decide) (fun q14 => ?_) (fun q14 => ?_)
        · have hf := ifn hf q14
          exact hj61 x3 H locs ls hf hS (lv_sub hl [0, 1, 3] rfl)
        · have hf := ifp hf q14
          refine lv_iconst (v := 1) hx hb dX12_isWhite_57 (by decide) ?_
          refine lv_goto (tgt := 62) hx hb dX12_isWhite_58 (by decide) ?_
          exact hj62 x3 1 H locs ls hf hS (lv_sub hl [0, 1, 3] rfl)
  intro H locs ls hS hl
  refine lv_aload_n hx hb dX12_isWhite_0 rfl (lv_at hl 0 rfl) ?_
  obtain ⟨a15, h1, hf⟩ := bs hf
  refine am_gr X hS fl_X12_62 rfl h1 dX12_isWhite_1 ?_
  refine lv_iconst (v := 0) hx hb dX12_isWhite_4 (by decide) ?_
  refine lv_iload_n hx hb dX12_isWhite_5 rfl (lv_at hl 1 rfl) ?_
  refine lv_iconst (v := 0) hx hb dX12_isWhite_6 (by decide) ?_
  obtain ⟨v16, h1, hf⟩ := bs hf
  refine am_endi hS (am_runS (As := [.int 0, .int x1, .int 0]) X (hml.trans hl.1.symm) hS (cX12_in_ok (l := l) (E := E) h1) ms_X12_319 ⟨Nat.le_trans (by decide) hRa, Nat.le_trans (by decide) hRb⟩ ⟨Nat.zero_le _, Nat.zero_le _⟩ rfl rfl (Nat.le_of_ble_eq_true rfl) dX12_isWhite_7) (fun H locs hS => ?_)
  obtain ⟨v17, h1, hf⟩ := bs hf
  refine am_ald X hS h1 dX12_isWhite_10 ?_
  refine lv_if_le (tgt := 18) hx hb dX12_isWhite_11 (by decide) (fun q18 => ?_) (fun q18 => ?_)
  · have hf := ifp hf q18
    refine lv_iconst (v := 0) hx hb dX12_isWhite_18 (by decide) ?_
    exact hj19 x0 x1 0 H locs ls hf hS hl
  · have hf := ifn hf q18
    refine lv_iconst (v := 1) hx hb dX12_isWhite_14 (by decide) ?_
    refine lv_goto (tgt := 19) hx hb dX12_isWhite_15 (by decide) ?_
    exact hj19 x0 x1 1 H locs ls hf hS hl
set_option maxRecDepth 100000 in
theorem cX12_isWhite_ok {l : Launch} {E : Ev} {x0 : Nat} {x1 : Int32} {mm : Mem} {r : Int32} (hf : fX12_isWhite (eS E) x0 x1 mm = some r) : CtI l yX12_isWhite cX12_isWhite 4 (some .boolean) (1) (22) E [.ref x0, .int x1] mm r mm := by
  refine Met.ofW (cc := cX12_isWhite) (maxL := 4) (ret := (some .boolean)) (by decide) rfl ?_
  intro p e s m args below meth c s₁ B hml hv
  obtain ⟨rfl, X, hS, hr, hlocks⟩ := am_in B hv
  refine am_entry (Nat.le_of_ble_eq_true rfl) (fun ls hl => ?_)
  exact wX12_isWhite X hml ⟨Nat.le_refl _, Nat.le_refl _⟩ hf (fun pc H locs ls hn hd hS => am_ri X hS hr hn hd hlocks) _ _ ls hS hl
set_option maxHeartbeats 4000000 in
set_option maxRecDepth 100000 in
theorem wX12_whites {p : Program} {l : Launch} {e : Env} {R : Room} {s : State} {m : MethodId} {args : Array Value} {below : List Frame} {meth : Method} {c : Code} {Q : State → Prop} {E : Ev} (X : Cx p s m args c cX12_whites RX12 E) (hml : c.maxLocals = 3) (hR : 2 ≤ R.frames ∧ 45 ≤ R.locals) {x0 : Nat} {mm : Mem} {r : Int32} (hf : fX12_whites (eS E) x0 mm = some r) (hret : ∀ (pc : Nat) (H : Heap) (locs : List Loc) (ls : Array Slot), narrow .int (.int r) = .int r → decode cX12_whites pc = .ok (.ireturn, 1) → wS E s mm H locs → W p l e R s m args below meth c H locs 0 0 Q (F0 m pc ls [.int r])) : ∀ (H : Heap) (locs : List Loc) (ls : Array Slot), wS E s mm H locs → lv_has ls 3 [(0, .ref x0)] → W p l e R s m args below meth c H locs 0 0 Q (F0 m 0 ls []) := by
  have hx := X.1
  have hb := X.2.1
  have hR1 := hR.1
  have hR2 := hR.2
  have hRa : 2 ≤ R.frames := by omega
  have hRb : 45 ≤ R.locals := by omega
  unfold fX12_whites at hf
  have hj36 : ∀ (x1 : Int32) (H : Heap) (locs : List Loc) (ls : Array Slot), fX12_whites_j36 (eS E) x1 mm = some r → wS E s mm H locs → lv_has ls 3 [(1, .int x1)] → W p l e R s m args below meth c H locs 0 0 Q (F0 m 36 ls []) := by
    intro x1 H locs ls hf hS hl
    unfold fX12_whites_j36 at hf
    refine lv_iload_n hx hb dX12_whites_36 rfl (lv_at hl 0 rfl) ?_
    cases hf
    exact hret _ _ _ _ rfl dX12_whites_37 hS
  intro H locs ls hS hl
  refine lv_iconst (v := 0) hx hb dX12_whites_0 (by decide) ?_
  refine lv_topi (fun x1_1 e1 => ?_)
  have hf := lt1_n e1 hf
  refine lv_istore_n (lv' := [(1, .int x1_1), (0, .ref x0)]) hx hb dX12_whites_1 rfl hl (by decide) rfl (fun ls hl => ?_)
  refine lv_iconst (v := 0) hx hb dX12_whites_2 (by decide) ?_
  refine lv_topi (fun x2_2 e1 => ?_)
  have hf := lt1_n e1 hf
  refine lv_istore_n (lv' := [(2, .int x2_2), (1, .int x1_1), (0, .ref x0)]) hx hb dX12_whites_3 rfl hl (by decide) rfl (fun ls hl => ?_)
  obtain ⟨ex4, hl4, hk4⟩ := bs hf
  refine loop_W (P := fun st => ∀ (H : Heap) (locs : List Loc) (ls : Array Slot), wS E s mm H locs → lv_has ls 3 [(0, .ref x0), (1, .int st.1), (2, .int st.2)] → W p l e R s m args below meth c H locs 0 0 Q (F0 m 4 ls [])) (ex := ex4) ?_ FU _ hl4 H locs ls hS (lv_sub hl [2, 1, 0] rfl)
  intro st y4 hf hyL4 hyR4 H locs ls hS hl
  obtain ⟨x1, x2⟩ := st
  have hf : fX12_whites_b4 (eS E) x0 x1 x2 mm = some y4 := hf
  have hS : wS E s mm H locs := hS
  have hl : lv_has ls 3 [(0, .ref x0), (1, .int x1), (2, .int x2)] := hl
  unfold fX12_whites_b4 at hf
  have hj28 : ∀ (x2 : Int32) (s0 : Int32) (s1 : Int32) (H : Heap) (locs : List Loc) (ls : Array Slot), fX12_whites_j28 (eS E) x0 x2 s0 s1 mm = some y4 → wS E s mm H locs → lv_has ls 3 [(0, .ref x0), (2, .int x2)] → W p l e R s m args below meth c H locs 0 0 Q (F0 m 28 ls [.int s1, .int s0]) := by
    intro x2 s0 s1 H locs ls hf hS hl
    unfold fX12_whites_j28 at hf
    refine lv_ior hx hb dX12_whites_28 ?_
    refine lv_topi (fun x1_3 e1 => ?_)
    have hf := lt1_n e1 hf
    refine lv_istore_n (lv' := [(1, .int x1_3), (0, .ref x0), (2, .int x2)]) hx hb dX12_whites_29 rfl hl (by decide) rfl (fun ls hl => ?_)
    obtain ⟨x2_4, e1⟩ : ∃ z : Int32, z = x2 + 1 := ⟨_, rfl⟩
    have hf := lt1_n e1 hf
    refine lv_iinc (v := x2_4) (lv' := [(2, .int x2_4), (1, .int x1_3), (0, .ref x0)]) hx hb dX12_whites_30 hl (k := 2) rfl (by rw [e1]; rfl) (by decide) rfl (fun ls hl => ?_)
    refine lv_goto (tgt := 4) hx hb dX12_whites_33 (by decide) ?_
    exact hyL4 _ (Option.some.inj hf).symm H locs ls hS (lv_sub hl [2, 1, 0] rfl)
  refine lv_iload_n hx hb dX12_whites_4 rfl (lv_at hl 2 rfl) ?_
  refine lv_aload_n hx hb dX12_whites_5 rfl (lv_at hl 0 rfl) ?_
  obtain ⟨v5, h1, hf⟩ := bs hf
  refine am_gi X hS fl_X12_150 rfl h1 dX12_whites_6 ?_
  refine lv_icmp_ge (tgt := 36) hx hb dX12_whites_9 (by decide) (fun q6 => ?_) (fun q6 => ?_)
  · have hf := ifp hf q6
    obtain rfl : x1 = ex4 := hyR4 _ (Option.some.inj hf).symm
    exact hj36 x1 H locs ls hk4 hS (lv_sub hl [1] rfl)
  · have hf := ifn hf q6
    refine lv_iload_n hx hb dX12_whites_12 rfl (lv_at hl 1 rfl) ?_
    refine lv_aload_n hx hb dX12_whites_13 rfl (lv_at hl 0 rfl) ?_
    refine lv_iload_n hx hb dX12_whites_14 rfl (lv_at hl 2 rfl) ?_
    obtain ⟨u0, h0, hf⟩ := bs hf
    obtain ⟨_, hrc⟩ := isO_n h0
    obtain ⟨v7, h1, hf⟩ := bs hf
    refine am_endi hS (am_runV (As := [.int x2]) X (hml.trans hl.1.symm) hS (cX12_isWhite_ok (l := l) (E := E) h1) mv_X12_362 hrc rfl ⟨Nat.le_trans (by decide) hRa, Nat.le_trans (by decide) hRb⟩ ⟨Nat.zero_le _, Nat.zero_le _⟩ rfl rfl (Nat.le_of_ble_eq_true rfl) dX12_whites_15) (fun H locs hS => ?_)
    refine lv_if_eq (tgt := 27) hx hb dX12_whites_18 (by decide) (fun q8 => ?_) (fun q8 => ?_)
    · have hf := ifp hf q8
      refine lv_iconst (v := 0) hx hb dX12_whites_27 (by decide) ?_
      exact hj28 x2 x1 0 H locs ls hf hS (lv_sub hl [0, 2] rfl)
    · have hf := ifn hf q8
      refine lv_iconst (v := 1) hx hb dX12_whites_21 (by decide) ?_
      refine lv_iload_n hx hb dX12_whites_22 rfl (lv_at hl 2 rfl) ?_
      refine lv_ishl hx hb dX12_whites_23 ?_
      refine lv_goto (tgt := 28) hx hb dX12_whites_24 (by decide) ?_
      exact hj28 x2 x1 (1 <<< (x2 &&& 31)) H locs ls hf hS (lv_sub hl [0, 2] rfl)
set_option maxRecDepth 100000 in
theorem cX12_whites_ok {l : Launch} {E : Ev} {x0 : Nat} {mm : Mem} {r : Int32} (hf : fX12_whites (eS E) x0 mm = some r) : CtI l yX12_whites cX12_whites 3 (some .int) (2) (45) E [.ref x0] mm r mm := by
  refine Met.ofW (cc := cX12_whites) (maxL := 3) (ret := (some .int)) (by decide) rfl ?_
  intro p e s m args below meth c s₁ B hml hv
  obtain ⟨rfl, X, hS, hr, hlocks⟩ := am_in B hv
  refine am_entry (Nat.le_of_ble_eq_true rfl) (fun ls hl => ?_)
  exact wX12_whites X hml ⟨Nat.le_refl _, Nat.le_refl _⟩ hf (fun pc H locs ls hn hd hS => am_ri X hS hr hn hd hlocks) _ _ ls hS hl
set_option maxHeartbeats 4000000 in
set_option maxRecDepth 100000 in
theorem wX12_wallOf {p : Program} {l : Launch} {e : Env} {R : Room} {s : State} {m : MethodId} {args : Array Value} {below : List Frame} {meth : Method} {c : Code} {Q : State → Prop} {E : Ev} (X : Cx p s m args c cX12_wallOf RX12 E) (hml : c.maxLocals = 2) (hR : 1 ≤ R.frames ∧ 24 ≤ R.locals) {x0 : Nat} {x1 : Int32} {mm : Mem} {r : Int32} (hf : fX12_wallOf (eS E) x0 x1 mm = some r) (hret : ∀ (pc : Nat) (H : Heap) (locs : List Loc) (ls : Array Slot), narrow .int (.int r) = .int r → decode cX12_wallOf pc = .ok (.ireturn, 1) → wS E s mm H locs → W p l e R s m args below meth c H locs 0 0 Q (F0 m pc ls [.int r])) : ∀ (H : Heap) (locs : List Loc) (ls : Array Slot), wS E s mm H locs → lv_has ls 2 [(0, .ref x0), (1, .int x1)] → W p l e R s m args below meth c H locs 0 0 Q (F0 m 0 ls []) := by
  have hx := X.1
  have hb := X.2.1
  have hR1 := hR.1
  have hR2 := hR.2
  have hRa : 1 ≤ R.frames := by omega
  have hRb : 24 ≤ R.locals := by omega
  unfold fX12_wallOf at hf
  intro H locs ls hS hl
  refine lv_aload_n hx hb dX12_wallOf_0 rfl (lv_at hl 0 rfl) ?_
  refine lv_bipush (v := 42) hx hb dX12_wallOf_1 (by decide) ?_
  refine lv_iload_n hx hb dX12_wallOf_3 rfl (lv_at hl 1 rfl) ?_
  refine lv_iconst (v := 0) hx hb dX12_wallOf_4 (by decide) ?_
  obtain ⟨v1, h1, hf⟩ := bs hf
  refine am_endi hS (am_runS (As := [.int 42, .int x1, .int 0]) X (hml.trans hl.1.symm) hS (cX12_in_ok (l := l) (E := E) h1) ms_X12_319 ⟨Nat.le_trans (by decide) hRa, Nat.le_trans (by decide) hRb⟩ ⟨Nat.zero_le _, Nat.zero_le _⟩ rfl rfl (Nat.le_of_ble_eq_true rfl) dX12_wallOf_5) (fun H locs hS => ?_)
  refine lv_bipush (v := 7) hx hb dX12_wallOf_8 (by decide) ?_
  obtain ⟨u0, h0, hf⟩ := bs hf
  obtain ⟨_, hrc⟩ := isO_n h0
  obtain ⟨v2, h1, hf⟩ := bs hf
  refine am_endi hS (am_runV (As := [.int v1, .int 7]) X (hml.trans hl.1.symm) hS (cX12_sumOf_ok (l := l) (E := E) h1) mv_X12_322 hrc rfl ⟨Nat.le_trans (by decide) hRa, Nat.le_trans (by decide) hRb⟩ ⟨Nat.zero_le _, Nat.zero_le _⟩ rfl rfl (Nat.le_of_ble_eq_true rfl) dX12_wallOf_10) (fun H locs hS => ?_)
  cases hf
  exact hret _ _ _ _ rfl dX12_wallOf_13 hS
set_option maxRecDepth 100000 in
theorem cX12_wallOf_ok {l : Launch} {E : Ev} {x0 : Nat} {x1 : Int32} {mm : Mem} {r : Int32} (hf : fX12_wallOf (eS E) x0 x1 mm = some r) : CtI l yX12_wallOf cX12_wallOf 2 (some .int) (1) (24) E [.ref x0, .int x1] mm r mm := by
  refine Met.ofW (cc := cX12_wallOf) (maxL := 2) (ret := (some .int)) (by decide) rfl ?_
  intro p e s m args below meth c s₁ B hml hv
  obtain ⟨rfl, X, hS, hr, hlocks⟩ := am_in B hv
  refine am_entry (Nat.le_of_ble_eq_true rfl) (fun ls hl => ?_)
  exact wX12_wallOf X hml ⟨Nat.le_refl _, Nat.le_refl _⟩ hf (fun pc H locs ls hn hd hS => am_ri X hS hr hn hd hlocks) _ _ ls hS hl
set_option maxHeartbeats 4000000 in
set_option maxRecDepth 100000 in
theorem wX12_scattered {p : Program} {l : Launch} {e : Env} {R : Room} {s : State} {m : MethodId} {args : Array Value} {below : List Frame} {meth : Method} {c : Code} {Q : State → Prop} {E : Ev} (X : Cx p s m args c cX12_scattered RX12 E) (hml : c.maxLocals = 3) (hR : 2 ≤ R.frames ∧ 45 ≤ R.locals) {x0 : Nat} {mm : Mem} {r : Int32} (hf : fX12_scattered (eS E) x0 mm = some r) (hret : ∀ (pc : Nat) (H : Heap) (locs : List Loc) (ls : Array Slot), narrow .int (.int r) = .int r → decode cX12_scattered pc = .ok (.ireturn, 1) → wS E s mm H locs → W p l e R s m args below meth c H locs 0 0 Q (F0 m pc ls [.int r])) : ∀ (H : Heap) (locs : List Loc) (ls : Array Slot), wS E s mm H locs → lv_has ls 3 [(0, .ref x0)] → W p l e R s m args below meth c H locs 0 0 Q (F0 m 0 ls []) := by
  have hx := X.1
  have hb := X.2.1
  have hR1 := hR.1
  have hR2 := hR.2
  have hRa : 2 ≤ R.frames := by omega
  have hRb : 45 ≤ R.locals := by omega
  unfold fX12_scattered at hf
  have hj36 : ∀ (x1 : Int32) (H : Heap) (locs : List Loc) (ls : Array Slot), fX12_scattered_j36 (eS E) x1 mm = some r → wS E s mm H locs → lv_has ls 3 [(1, .int x1)] → W p l e R s m args below meth c H locs 0 0 Q (F0 m 36 ls []) := by
    intro x1 H locs ls hf hS hl
    unfold fX12_scattered_j36 at hf
    refine lv_iload_n hx hb dX12_scattered_36 rfl (lv_at hl 0 rfl) ?_
    cases hf
    exact hret _ _ _ _ rfl dX12_scattered_37 hS
  intro H locs ls hS hl
  refine lv_iconst (v := 0) hx hb dX12_scattered_0 (by decide) ?_
  refine lv_topi (fun x1_1 e1 => ?_)
  have hf := lt1_n e1 hf
  refine lv_istore_n (lv' := [(1, .int x1_1), (0, .ref x0)]) hx hb dX12_scattered_1 rfl hl (by decide) rfl (fun ls hl => ?_)
  refine lv_iconst (v := 0) hx hb dX12_scattered_2 (by decide) ?_
  refine lv_topi (fun x2_2 e1 => ?_)
  have hf := lt1_n e1 hf
  refine lv_istore_n (lv' := [(2, .int x2_2), (1, .int x1_1), (0, .ref x0)]) hx hb dX12_scattered_3 rfl hl (by decide) rfl (fun ls hl => ?_)
  obtain ⟨ex4, hl4, hk4⟩ := bs hf
  refine loop_W (P := fun st => ∀ (H : Heap) (locs : List Loc) (ls : Array Slot), wS E s mm H locs → lv_has ls 3 [(0, .ref x0), (1, .int st.1), (2, .int st.2)] → W p l e R s m args below meth c H locs 0 0 Q (F0 m 4 ls [])) (ex := ex4) ?_ FU _ hl4 H locs ls hS (lv_sub hl [2, 1, 0] rfl)
  intro st y4 hf hyL4 hyR4 H locs ls hS hl
  obtain ⟨x1, x2⟩ := st
  have hf : fX12_scattered_b4 (eS E) x0 x1 x2 mm = some y4 := hf
  have hS : wS E s mm H locs := hS
  have hl : lv_has ls 3 [(0, .ref x0), (1, .int x1), (2, .int x2)] := hl
  unfold fX12_scattered_b4 at hf
  have hj28 : ∀ (x2 : Int32) (s0 : Int32) (s1 : Int32) (H : Heap) (locs : List Loc) (ls : Array Slot), fX12_scattered_j28 (eS E) x0 x2 s0 s1 mm = some y4 → wS E s mm H locs → lv_has ls 3 [(0, .ref x0), (2, .int x2)] → W p l e R s m args below meth c H locs 0 0 Q (F0 m 28 ls [.int s1, .int s0]) := by
    intro x2 s0 s1 H locs ls hf hS hl
    unfold fX12_scattered_j28 at hf
    refine lv_ior hx hb dX12_scattered_28 ?_
    refine lv_topi (fun x1_3 e1 => ?_)
    have hf := lt1_n e1 hf
    refine lv_istore_n (lv' := [(1, .int x1_3), (0, .ref x0), (2, .int x2)]) hx hb dX12_scattered_29 rfl hl (by decide) rfl (fun ls hl => ?_)
    obtain ⟨x2_4, e1⟩ : ∃ z : Int32, z = x2 + 1 := ⟨_, rfl⟩
    have hf := lt1_n e1 hf
    refine lv_iinc (v := x2_4) (lv' := [(2, .int x2_4), (1, .int x1_3), (0, .ref x0)]) hx hb dX12_scattered_30 hl (k := 2) rfl (by rw [e1]; rfl) (by decide) rfl (fun ls hl => ?_)
    refine lv_goto (tgt := 4) hx hb dX12_scattered_33 (by decide) ?_
    exact hyL4 _ (Option.some.inj hf).symm H locs ls hS (lv_sub hl [2, 1, 0] rfl)
  refine lv_iload_n hx hb dX12_scattered_4 rfl (lv_at hl 2 rfl) ?_
  refine lv_aload_n hx hb dX12_scattered_5 rfl (lv_at hl 0 rfl) ?_
  obtain ⟨v5, h1, hf⟩ := bs hf
  refine am_gi X hS fl_X12_150 rfl h1 dX12_scattered_6 ?_
  refine lv_icmp_ge (tgt := 36) hx hb dX12_scattered_9 (by decide) (fun q6 => ?_) (fun q6 => ?_)
  · have hf := ifp hf q6
    obtain rfl : x1 = ex4 := hyR4 _ (Option.some.inj hf).symm
    exact hj36 x1 H locs ls hk4 hS (lv_sub hl [1] rfl)
  · have hf := ifn hf q6
    refine lv_iload_n hx hb dX12_scattered_12 rfl (lv_at hl 1 rfl) ?_
    refine lv_aload_n hx hb dX12_scattered_13 rfl (lv_at hl 0 rfl) ?_
    refine lv_iload_n hx hb dX12_scattered_14 rfl (lv_at hl 2 rfl) ?_
    obtain ⟨u0, h0, hf⟩ := bs hf
    obtain ⟨_, hrc⟩ := isO_n h0
    obtain ⟨v7, h1, hf⟩ := bs hf
    refine am_endi hS (am_runV (As := [.int x2]) X (hml.trans hl.1.symm) hS (cX12_wallOf_ok (l := l) (E := E) h1) mv_X12_365 hrc rfl ⟨Nat.le_trans (by decide) hRa, Nat.le_trans (by decide) hRb⟩ ⟨Nat.zero_le _, Nat.zero_le _⟩ rfl rfl (Nat.le_of_ble_eq_true rfl) dX12_scattered_15) (fun H locs hS => ?_)
    refine lv_if_le (tgt := 27) hx hb dX12_scattered_18 (by decide) (fun q8 => ?_) (fun q8 => ?_)
    · have hf := ifp hf q8
      refine lv_iconst (v := 0) hx hb dX12_scattered_27 (by decide) ?_
      exact hj28 x2 x1 0 H locs ls hf hS (lv_sub hl [0, 2] rfl)
    · have hf := ifn hf q8
      refine lv_iconst (v := 1) hx hb dX12_scattered_21 (by decide) ?_
      refine lv_iload_n hx hb dX12_scattered_22 rfl (lv_at hl 2 rfl) ?_
      refine lv_ishl hx hb dX12_scattered_23 ?_
      refine lv_goto (tgt := 28) hx hb dX12_scattered_24 (by decide) ?_
      exact hj28 x2 x1 (1 <<< (x2 &&& 31)) H locs ls hf hS (lv_sub hl [0, 2] rfl)
set_option maxRecDepth 100000 in
theorem cX12_scattered_ok {l : Launch} {E : Ev} {x0 : Nat} {mm : Mem} {r : Int32} (hf : fX12_scattered (eS E) x0 mm = some r) : CtI l yX12_scattered cX12_scattered 3 (some .int) (2) (45) E [.ref x0] mm r mm := by
  refine Met.ofW (cc := cX12_scattered) (maxL := 3) (ret := (some .int)) (by decide) rfl ?_
  intro p e s m args below meth c s₁ B hml hv
  obtain ⟨rfl, X, hS, hr, hlocks⟩ := am_in B hv
  refine am_entry (Nat.le_of_ble_eq_true rfl) (fun ls hl => ?_)
  exact wX12_scattered X hml ⟨Nat.le_refl _, Nat.le_refl _⟩ hf (fun pc H locs ls hn hd hS => am_ri X hS hr hn hd hlocks) _ _ ls hS hl

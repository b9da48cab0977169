theorem dX12_isWritten_0 : decode cX12_isWritten 0 = .ok (.iconst 0, 1) := by decide +kernel
theorem dX12_isWritten_1 : decode cX12_isWritten 1 = .ok (.istore_n 2, 1) := by decide +kernel
theorem dX12_isWritten_2 : decode cX12_isWritten 2 = .ok (.iload_n 2, 1) := by decide +kernel
theorem dX12_isWritten_3 : decode cX12_isWritten 3 = .ok (.aload_n 0, 1) := by decide +kernel
theorem dX12_isWritten_4 : decode cX12_isWritten 4 = .ok (.getfield 166, 3) := by decide +kernel
theorem dX12_isWritten_7 : decode cX12_isWritten 7 = .ok (.if_icmp .ge 23, 3) := by decide +kernel
theorem dX12_isWritten_10 : decode cX12_isWritten 10 = .ok (.aload_n 0, 1) := by decide +kernel
theorem dX12_isWritten_11 : decode cX12_isWritten 11 = .ok (.getfield 74, 3) := by decide +kernel
theorem dX12_isWritten_14 : decode cX12_isWritten 14 = .ok (.iconst 2, 1) := by decide +kernel
theorem dX12_isWritten_15 : decode cX12_isWritten 15 = .ok (.iload_n 2, 1) := by decide +kernel
theorem dX12_isWritten_16 : decode cX12_isWritten 16 = .ok (.imul, 1) := by decide +kernel
theorem dX12_isWritten_17 : decode cX12_isWritten 17 = .ok (.iaload, 1) := by decide +kernel
theorem dX12_isWritten_18 : decode cX12_isWritten 18 = .ok (.iload_n 1, 1) := by decide +kernel
theorem dX12_isWritten_19 : decode cX12_isWritten 19 = .ok (.if_icmp .ne 5, 3) := by decide +kernel
theorem dX12_isWritten_22 : decode cX12_isWritten 22 = .ok (.iconst 1, 1) := by decide +kernel
theorem dX12_isWritten_23 : decode cX12_isWritten 23 = .ok (.ireturn, 1) := by decide +kernel
theorem dX12_isWritten_24 : decode cX12_isWritten 24 = .ok (.iinc 2 1, 3) := by decide +kernel
theorem dX12_isWritten_27 : decode cX12_isWritten 27 = .ok (.goto (-25), 3) := by decide +kernel
theorem dX12_isWritten_30 : decode cX12_isWritten 30 = .ok (.iconst 0, 1) := by decide +kernel
theorem dX12_isWritten_31 : decode cX12_isWritten 31 = .ok (.ireturn, 1) := by decide +kernel
theorem dX12_lacks_0 : decode cX12_lacks 0 = .ok (.aload_n 0, 1) := by decide +kernel
theorem dX12_lacks_1 : decode cX12_lacks 1 = .ok (.iconst 0, 1) := by decide +kernel
theorem dX12_lacks_2 : decode cX12_lacks 2 = .ok (.putfield 3, 3) := by decide +kernel
theorem dX12_lacks_5 : decode cX12_lacks 5 = .ok (.aload_n 0, 1) := by decide +kernel
theorem dX12_lacks_6 : decode cX12_lacks 6 = .ok (.iload_n 1, 1) := by decide +kernel
theorem dX12_lacks_7 : decode cX12_lacks 7 = .ok (.iconst 1, 1) := by decide +kernel
theorem dX12_lacks_8 : decode cX12_lacks 8 = .ok (.invokevirtual 377, 3) := by decide +kernel
theorem dX12_lacks_11 : decode cX12_lacks 11 = .ok (.ifCond .eq 16, 3) := by decide +kernel
theorem dX12_lacks_14 : decode cX12_lacks 14 = .ok (.aload_n 0, 1) := by decide +kernel
theorem dX12_lacks_15 : decode cX12_lacks 15 = .ok (.iload_n 2, 1) := by decide +kernel
theorem dX12_lacks_16 : decode cX12_lacks 16 = .ok (.invokestatic 386, 3) := by decide +kernel
theorem dX12_lacks_19 : decode cX12_lacks 19 = .ok (.iconst 2, 1) := by decide +kernel
theorem dX12_lacks_20 : decode cX12_lacks 20 = .ok (.iconst 1, 1) := by decide +kernel
theorem dX12_lacks_21 : decode cX12_lacks 21 = .ok (.invokevirtual 190, 3) := by decide +kernel
theorem dX12_lacks_24 : decode cX12_lacks 24 = .ok (.ifCond .ne 5, 3) := by decide +kernel
theorem dX12_lacks_27 : decode cX12_lacks 27 = .ok (.iconst 0, 1) := by decide +kernel
theorem dX12_lacks_28 : decode cX12_lacks 28 = .ok (.ireturn, 1) := by decide +kernel
theorem dX12_lacks_29 : decode cX12_lacks 29 = .ok (.aload_n 0, 1) := by decide +kernel
theorem dX12_lacks_30 : decode cX12_lacks 30 = .ok (.iload_n 1, 1) := by decide +kernel
theorem dX12_lacks_31 : decode cX12_lacks 31 = .ok (.invokevirtual 447, 3) := by decide +kernel
theorem dX12_lacks_34 : decode cX12_lacks 34 = .ok (.aload_n 0, 1) := by decide +kernel
theorem dX12_lacks_35 : decode cX12_lacks 35 = .ok (.getfield 59, 3) := by decide +kernel
theorem dX12_lacks_38 : decode cX12_lacks 38 = .ok (.iconst 0, 1) := by decide +kernel
theorem dX12_lacks_39 : decode cX12_lacks 39 = .ok (.iload_n 1, 1) := by decide +kernel
theorem dX12_lacks_40 : decode cX12_lacks 40 = .ok (.iload_n 2, 1) := by decide +kernel
theorem dX12_lacks_41 : decode cX12_lacks 41 = .ok (.invokestatic 319, 3) := by decide +kernel
theorem dX12_lacks_44 : decode cX12_lacks 44 = .ok (.iaload, 1) := by decide +kernel
theorem dX12_lacks_45 : decode cX12_lacks 45 = .ok (.isub, 1) := by decide +kernel
theorem dX12_lacks_46 : decode cX12_lacks 46 = .ok (.ireturn, 1) := by decide +kernel
theorem dX12_term_0 : decode cX12_term 0 = .ok (.aload_n 0, 1) := by decide +kernel
theorem dX12_term_1 : decode cX12_term 1 = .ok (.iconst 0, 1) := by decide +kernel
theorem dX12_term_2 : decode cX12_term 2 = .ok (.putfield 3, 3) := by decide +kernel
theorem dX12_term_5 : decode cX12_term 5 = .ok (.aload_n 0, 1) := by decide +kernel
theorem dX12_term_6 : decode cX12_term 6 = .ok (.iload_n 2, 1) := by decide +kernel
theorem dX12_term_7 : decode cX12_term 7 = .ok (.iload_n 3, 1) := by decide +kernel
theorem dX12_term_8 : decode cX12_term 8 = .ok (.invokestatic 457, 3) := by decide +kernel
theorem dX12_term_11 : decode cX12_term 11 = .ok (.ifCond .eq 17, 3) := by decide +kernel
theorem dX12_term_14 : decode cX12_term 14 = .ok (.iload 4, 2) := by decide +kernel
theorem dX12_term_16 : decode cX12_term 16 = .ok (.iconst 0, 1) := by decide +kernel
theorem dX12_term_17 : decode cX12_term 17 = .ok (.iconst 3, 1) := by decide +kernel
theorem dX12_term_18 : decode cX12_term 18 = .ok (.invokestatic 368, 3) := by decide +kernel
theorem dX12_term_21 : decode cX12_term 21 = .ok (.ifCond .eq 7, 3) := by decide +kernel
theorem dX12_term_24 : decode cX12_term 24 = .ok (.iconst 1, 1) := by decide +kernel
theorem dX12_term_25 : decode cX12_term 25 = .ok (.goto 4, 3) := by decide +kernel
theorem dX12_term_28 : decode cX12_term 28 = .ok (.iconst 0, 1) := by decide +kernel
theorem dX12_term_29 : decode cX12_term 29 = .ok (.iconst 1, 1) := by decide +kernel
theorem dX12_term_30 : decode cX12_term 30 = .ok (.iconst 1, 1) := by decide +kernel
theorem dX12_term_31 : decode cX12_term 31 = .ok (.invokevirtual 190, 3) := by decide +kernel
theorem dX12_term_34 : decode cX12_term 34 = .ok (.ifCond .ne 5, 3) := by decide +kernel
theorem dX12_term_37 : decode cX12_term 37 = .ok (.iconst 0, 1) := by decide +kernel
theorem dX12_term_38 : decode cX12_term 38 = .ok (.ireturn, 1) := by decide +kernel
theorem dX12_term_39 : decode cX12_term 39 = .ok (.aload_n 0, 1) := by decide +kernel
theorem dX12_term_40 : decode cX12_term 40 = .ok (.iload_n 1, 1) := by decide +kernel
theorem dX12_term_41 : decode cX12_term 41 = .ok (.iload_n 2, 1) := by decide +kernel
theorem dX12_term_42 : decode cX12_term 42 = .ok (.iload_n 3, 1) := by decide +kernel
theorem dX12_term_43 : decode cX12_term 43 = .ok (.invokevirtual 460, 3) := by decide +kernel
theorem dX12_term_46 : decode cX12_term 46 = .ok (.iload 4, 2) := by decide +kernel
theorem dX12_term_48 : decode cX12_term 48 = .ok (.iconst 2, 1) := by decide +kernel
theorem dX12_term_49 : decode cX12_term 49 = .ok (.if_icmp .ge 21, 3) := by decide +kernel
theorem dX12_term_52 : decode cX12_term 52 = .ok (.aload_n 0, 1) := by decide +kernel
theorem dX12_term_53 : decode cX12_term 53 = .ok (.iload 4, 2) := by decide +kernel
theorem dX12_term_55 : decode cX12_term 55 = .ok (.ifCond .ne 7, 3) := by decide +kernel
theorem dX12_term_58 : decode cX12_term 58 = .ok (.iconst 0, 1) := by decide +kernel
theorem dX12_term_59 : decode cX12_term 59 = .ok (.goto 5, 3) := by decide +kernel
theorem dX12_term_62 : decode cX12_term 62 = .ok (.bipush 42, 2) := by decide +kernel
theorem dX12_term_64 : decode cX12_term 64 = .ok (.bipush 42, 2) := by decide +kernel
theorem dX12_term_66 : decode cX12_term 66 = .ok (.invokevirtual 322, 3) := by decide +kernel
theorem dX12_term_69 : decode cX12_term 69 = .ok (.ireturn, 1) := by decide +kernel
theorem dX12_term_70 : decode cX12_term 70 = .ok (.iconst 0, 1) := by decide +kernel
theorem dX12_term_71 : decode cX12_term 71 = .ok (.istore 5, 2) := by decide +kernel
theorem dX12_term_73 : decode cX12_term 73 = .ok (.iconst 0, 1) := by decide +kernel
theorem dX12_term_74 : decode cX12_term 74 = .ok (.istore 6, 2) := by decide +kernel
theorem dX12_term_76 : decode cX12_term 76 = .ok (.iload 6, 2) := by decide +kernel
theorem dX12_term_78 : decode cX12_term 78 = .ok (.bipush 6, 2) := by decide +kernel
theorem dX12_term_80 : decode cX12_term 80 = .ok (.if_icmp .ge 25, 3) := by decide +kernel
theorem dX12_term_83 : decode cX12_term 83 = .ok (.iload 5, 2) := by decide +kernel
theorem dX12_term_85 : decode cX12_term 85 = .ok (.aload_n 0, 1) := by decide +kernel
theorem dX12_term_86 : decode cX12_term 86 = .ok (.getfield 59, 3) := by decide +kernel
theorem dX12_term_89 : decode cX12_term 89 = .ok (.sipush 168, 3) := by decide +kernel
theorem dX12_term_92 : decode cX12_term 92 = .ok (.iload 6, 2) := by decide +kernel
theorem dX12_term_94 : decode cX12_term 94 = .ok (.iadd, 1) := by decide +kernel
theorem dX12_term_95 : decode cX12_term 95 = .ok (.iaload, 1) := by decide +kernel
theorem dX12_term_96 : decode cX12_term 96 = .ok (.iadd, 1) := by decide +kernel
theorem dX12_term_97 : decode cX12_term 97 = .ok (.istore 5, 2) := by decide +kernel
theorem dX12_term_99 : decode cX12_term 99 = .ok (.iinc 6 1, 3) := by decide +kernel
theorem dX12_term_102 : decode cX12_term 102 = .ok (.goto (-26), 3) := by decide +kernel
theorem dX12_term_105 : decode cX12_term 105 = .ok (.iload 4, 2) := by decide +kernel
theorem dX12_term_107 : decode cX12_term 107 = .ok (.iconst 2, 1) := by decide +kernel
theorem dX12_term_108 : decode cX12_term 108 = .ok (.if_icmp .ne 18, 3) := by decide +kernel
theorem dX12_term_111 : decode cX12_term 111 = .ok (.aload_n 0, 1) := by decide +kernel
theorem dX12_term_112 : decode cX12_term 112 = .ok (.sipush 168, 3) := by decide +kernel
theorem dX12_term_115 : decode cX12_term 115 = .ok (.bipush 6, 2) := by decide +kernel
theorem dX12_term_117 : decode cX12_term 117 = .ok (.invokevirtual 322, 3) := by decide +kernel
theorem dX12_term_120 : decode cX12_term 120 = .ok (.iload 5, 2) := by decide +kernel
theorem dX12_term_122 : decode cX12_term 122 = .ok (.isub, 1) := by decide +kernel
theorem dX12_term_123 : decode cX12_term 123 = .ok (.goto 7, 3) := by decide +kernel
theorem dX12_term_126 : decode cX12_term 126 = .ok (.aload_n 0, 1) := by decide +kernel
theorem dX12_term_127 : decode cX12_term 127 = .ok (.invokevirtual 371, 3) := by decide +kernel
theorem dX12_term_130 : decode cX12_term 130 = .ok (.ireturn, 1) := by decide +kernel
theorem dX12_keepsAll_0 : decode cX12_keepsAll 0 = .ok (.aload_n 0, 1) := by decide +kernel
theorem dX12_keepsAll_1 : decode cX12_keepsAll 1 = .ok (.sipush 2976, 3) := by decide +kernel
theorem dX12_keepsAll_4 : decode cX12_keepsAll 4 = .ok (.iload_n 1, 1) := by decide +kernel
theorem dX12_keepsAll_5 : decode cX12_keepsAll 5 = .ok (.imul, 1) := by decide +kernel
theorem dX12_keepsAll_6 : decode cX12_keepsAll 6 = .ok (.aload_n 0, 1) := by decide +kernel
theorem dX12_keepsAll_7 : decode cX12_keepsAll 7 = .ok (.getfield 59, 3) := by decide +kernel
theorem dX12_keepsAll_10 : decode cX12_keepsAll 10 = .ok (.sipush 175, 3) := by decide +kernel
theorem dX12_keepsAll_13 : decode cX12_keepsAll 13 = .ok (.iload_n 2, 1) := by decide +kernel
theorem dX12_keepsAll_14 : decode cX12_keepsAll 14 = .ok (.invokevirtual 464, 3) := by decide +kernel
theorem dX12_keepsAll_17 : decode cX12_keepsAll 17 = .ok (.istore_n 3, 1) := by decide +kernel
theorem dX12_keepsAll_18 : decode cX12_keepsAll 18 = .ok (.aload_n 0, 1) := by decide +kernel
theorem dX12_keepsAll_19 : decode cX12_keepsAll 19 = .ok (.iload_n 3, 1) := by decide +kernel
theorem dX12_keepsAll_20 : decode cX12_keepsAll 20 = .ok (.aload_n 0, 1) := by decide +kernel
theorem dX12_keepsAll_21 : decode cX12_keepsAll 21 = .ok (.getfield 65, 3) := by decide +kernel
theorem dX12_keepsAll_24 : decode cX12_keepsAll 24 = .ok (.sipush 2800, 3) := by decide +kernel
theorem dX12_keepsAll_27 : decode cX12_keepsAll 27 = .ok (.iload_n 2, 1) := by decide +kernel
theorem dX12_keepsAll_28 : decode cX12_keepsAll 28 = .ok (.invokevirtual 464, 3) := by decide +kernel
theorem dX12_keepsAll_31 : decode cX12_keepsAll 31 = .ok (.istore_n 3, 1) := by decide +kernel
theorem dX12_keepsAll_32 : decode cX12_keepsAll 32 = .ok (.iload_n 2, 1) := by decide +kernel
theorem dX12_keepsAll_33 : decode cX12_keepsAll 33 = .ok (.ifCond .eq 16, 3) := by decide +kernel
theorem dX12_keepsAll_36 : decode cX12_keepsAll 36 = .ok (.aload_n 0, 1) := by decide +kernel
theorem dX12_keepsAll_37 : decode cX12_keepsAll 37 = .ok (.getfield 86, 3) := by decide +kernel
theorem dX12_keepsAll_40 : decode cX12_keepsAll 40 = .ok (.iload_n 3, 1) := by decide +kernel
theorem dX12_keepsAll_41 : decode cX12_keepsAll 41 = .ok (.aload_n 0, 1) := by decide +kernel
theorem dX12_keepsAll_42 : decode cX12_keepsAll 42 = .ok (.getfield 169, 3) := by decide +kernel
theorem dX12_keepsAll_45 : decode cX12_keepsAll 45 = .ok (.iastore, 1) := by decide +kernel
theorem dX12_keepsAll_46 : decode cX12_keepsAll 46 = .ok (.goto 13, 3) := by decide +kernel
theorem dX12_keepsAll_49 : decode cX12_keepsAll 49 = .ok (.aload_n 0, 1) := by decide +kernel
theorem dX12_keepsAll_50 : decode cX12_keepsAll 50 = .ok (.aload_n 0, 1) := by decide +kernel
theorem dX12_keepsAll_51 : decode cX12_keepsAll 51 = .ok (.getfield 86, 3) := by decide +kernel
theorem dX12_keepsAll_54 : decode cX12_keepsAll 54 = .ok (.iload_n 3, 1) := by decide +kernel
theorem dX12_keepsAll_55 : decode cX12_keepsAll 55 = .ok (.iaload, 1) := by decide +kernel
theorem dX12_keepsAll_56 : decode cX12_keepsAll 56 = .ok (.putfield 169, 3) := by decide +kernel
theorem dX12_keepsAll_59 : decode cX12_keepsAll 59 = .ok (.return_, 1) := by decide +kernel
theorem dX12_worstAt_0 : decode cX12_worstAt 0 = .ok (.iconst 0, 1) := by decide +kernel
theorem dX12_worstAt_1 : decode cX12_worstAt 1 = .ok (.istore_n 2, 1) := by decide +kernel
theorem dX12_worstAt_2 : decode cX12_worstAt 2 = .ok (.iconst 0, 1) := by decide +kernel
theorem dX12_worstAt_3 : decode cX12_worstAt 3 = .ok (.istore_n 3, 1) := by decide +kernel
theorem dX12_worstAt_4 : decode cX12_worstAt 4 = .ok (.iload_n 3, 1) := by decide +kernel
theorem dX12_worstAt_5 : decode cX12_worstAt 5 = .ok (.aload_n 0, 1) := by decide +kernel
theorem dX12_worstAt_6 : decode cX12_worstAt 6 = .ok (.getfield 409, 3) := by decide +kernel
theorem dX12_worstAt_9 : decode cX12_worstAt 9 = .ok (.if_icmp .ge 79, 3) := by decide +kernel
theorem dX12_worstAt_12 : decode cX12_worstAt 12 = .ok (.iconst 0, 1) := by decide +kernel
theorem dX12_worstAt_13 : decode cX12_worstAt 13 = .ok (.istore 4, 2) := by decide +kernel
theorem dX12_worstAt_15 : decode cX12_worstAt 15 = .ok (.iconst 0, 1) := by decide +kernel
theorem dX12_worstAt_16 : decode cX12_worstAt 16 = .ok (.istore 5, 2) := by decide +kernel
theorem dX12_worstAt_18 : decode cX12_worstAt 18 = .ok (.iload 5, 2) := by decide +kernel
theorem dX12_worstAt_20 : decode cX12_worstAt 20 = .ok (.aload_n 0, 1) := by decide +kernel
theorem dX12_worstAt_21 : decode cX12_worstAt 21 = .ok (.getfield 409, 3) := by decide +kernel
theorem dX12_worstAt_24 : decode cX12_worstAt 24 = .ok (.if_icmp .ge 45, 3) := by decide +kernel
theorem dX12_worstAt_27 : decode cX12_worstAt 27 = .ok (.iload 4, 2) := by decide +kernel
theorem dX12_worstAt_29 : decode cX12_worstAt 29 = .ok (.aload_n 0, 1) := by decide +kernel
theorem dX12_worstAt_30 : decode cX12_worstAt 30 = .ok (.getfield 83, 3) := by decide +kernel
theorem dX12_worstAt_33 : decode cX12_worstAt 33 = .ok (.bipush 48, 2) := by decide +kernel
theorem dX12_worstAt_35 : decode cX12_worstAt 35 = .ok (.iload_n 1, 1) := by decide +kernel
theorem dX12_worstAt_36 : decode cX12_worstAt 36 = .ok (.imul, 1) := by decide +kernel
theorem dX12_worstAt_37 : decode cX12_worstAt 37 = .ok (.iload 5, 2) := by decide +kernel
theorem dX12_worstAt_39 : decode cX12_worstAt 39 = .ok (.iadd, 1) := by decide +kernel
theorem dX12_worstAt_40 : decode cX12_worstAt 40 = .ok (.iaload, 1) := by decide +kernel
theorem dX12_worstAt_41 : decode cX12_worstAt 41 = .ok (.aload_n 0, 1) := by decide +kernel
theorem dX12_worstAt_42 : decode cX12_worstAt 42 = .ok (.getfield 83, 3) := by decide +kernel
theorem dX12_worstAt_45 : decode cX12_worstAt 45 = .ok (.bipush 48, 2) := by decide +kernel
theorem dX12_worstAt_47 : decode cX12_worstAt 47 = .ok (.iload_n 1, 1) := by decide +kernel
theorem dX12_worstAt_48 : decode cX12_worstAt 48 = .ok (.imul, 1) := by decide +kernel
theorem dX12_worstAt_49 : decode cX12_worstAt 49 = .ok (.iload_n 3, 1) := by decide +kernel
theorem dX12_worstAt_50 : decode cX12_worstAt 50 = .ok (.iadd, 1) := by decide +kernel
theorem dX12_worstAt_51 : decode cX12_worstAt 51 = .ok (.iaload, 1) := by decide +kernel
theorem dX12_worstAt_52 : decode cX12_worstAt 52 = .ok (.if_icmp .ne 7, 3) := by decide +kernel
theorem dX12_worstAt_55 : decode cX12_worstAt 55 = .ok (.iconst 1, 1) := by decide +kernel
theorem dX12_worstAt_56 : decode cX12_worstAt 56 = .ok (.goto 4, 3) := by decide +kernel
theorem dX12_worstAt_59 : decode cX12_worstAt 59 = .ok (.iconst 0, 1) := by decide +kernel
theorem dX12_worstAt_60 : decode cX12_worstAt 60 = .ok (.iadd, 1) := by decide +kernel
theorem dX12_worstAt_61 : decode cX12_worstAt 61 = .ok (.istore 4, 2) := by decide +kernel
theorem dX12_worstAt_63 : decode cX12_worstAt 63 = .ok (.iinc 5 1, 3) := by decide +kernel
theorem dX12_worstAt_66 : decode cX12_worstAt 66 = .ok (.goto (-48), 3) := by decide +kernel
theorem dX12_worstAt_69 : decode cX12_worstAt 69 = .ok (.iload 4, 2) := by decide +kernel
theorem dX12_worstAt_71 : decode cX12_worstAt 71 = .ok (.iload_n 2, 1) := by decide +kernel
theorem dX12_worstAt_72 : decode cX12_worstAt 72 = .ok (.if_icmp .le 8, 3) := by decide +kernel
theorem dX12_worstAt_75 : decode cX12_worstAt 75 = .ok (.iload 4, 2) := by decide +kernel
theorem dX12_worstAt_77 : decode cX12_worstAt 77 = .ok (.goto 4, 3) := by decide +kernel
theorem dX12_worstAt_80 : decode cX12_worstAt 80 = .ok (.iload_n 2, 1) := by decide +kernel
theorem dX12_worstAt_81 : decode cX12_worstAt 81 = .ok (.istore_n 2, 1) := by decide +kernel
theorem dX12_worstAt_82 : decode cX12_worstAt 82 = .ok (.iinc 3 1, 3) := by decide +kernel
theorem dX12_worstAt_85 : decode cX12_worstAt 85 = .ok (.goto (-81), 3) := by decide +kernel
theorem dX12_worstAt_88 : decode cX12_worstAt 88 = .ok (.iload_n 2, 1) := by decide +kernel
theorem dX12_worstAt_89 : decode cX12_worstAt 89 = .ok (.ireturn, 1) := by decide +kernel
theorem dX12_image_0 : decode cX12_image 0 = .ok (.aload_n 0, 1) := by decide +kernel
theorem dX12_image_1 : decode cX12_image 1 = .ok (.iconst 0, 1) := by decide +kernel
theorem dX12_image_2 : decode cX12_image 2 = .ok (.putfield 3, 3) := by decide +kernel
theorem dX12_image_5 : decode cX12_image 5 = .ok (.aload_n 0, 1) := by decide +kernel
theorem dX12_image_6 : decode cX12_image 6 = .ok (.getfield 172, 3) := by decide +kernel
theorem dX12_image_9 : decode cX12_image 9 = .ok (.iconst 3, 1) := by decide +kernel
theorem dX12_image_10 : decode cX12_image 10 = .ok (.if_icmp .ne 5, 3) := by decide +kernel
theorem dX12_image_13 : decode cX12_image 13 = .ok (.iconst (-1), 1) := by decide +kernel
theorem dX12_image_14 : decode cX12_image 14 = .ok (.ireturn, 1) := by decide +kernel
theorem dX12_image_15 : decode cX12_image 15 = .ok (.aload_n 0, 1) := by decide +kernel
theorem dX12_image_16 : decode cX12_image 16 = .ok (.aload_n 0, 1) := by decide +kernel
theorem dX12_image_17 : decode cX12_image 17 = .ok (.getfield 172, 3) := by decide +kernel
theorem dX12_image_20 : decode cX12_image 20 = .ok (.iconst 1, 1) := by decide +kernel
theorem dX12_image_21 : decode cX12_image 21 = .ok (.invokevirtual 468, 3) := by decide +kernel
theorem dX12_image_24 : decode cX12_image 24 = .ok (.aload_n 0, 1) := by decide +kernel
theorem dX12_image_25 : decode cX12_image 25 = .ok (.dup, 1) := by decide +kernel
theorem dX12_image_26 : decode cX12_image 26 = .ok (.getfield 172, 3) := by decide +kernel
theorem dX12_image_29 : decode cX12_image 29 = .ok (.iconst 1, 1) := by decide +kernel
theorem dX12_image_30 : decode cX12_image 30 = .ok (.iadd, 1) := by decide +kernel
theorem dX12_image_31 : decode cX12_image 31 = .ok (.putfield 172, 3) := by decide +kernel
theorem dX12_image_34 : decode cX12_image 34 = .ok (.aload_n 0, 1) := by decide +kernel
theorem dX12_image_35 : decode cX12_image 35 = .ok (.getfield 172, 3) := by decide +kernel
theorem dX12_image_38 : decode cX12_image 38 = .ok (.ireturn, 1) := by decide +kernel
theorem dX12_first_0 : decode cX12_first 0 = .ok (.aload_n 0, 1) := by decide +kernel
theorem dX12_first_1 : decode cX12_first 1 = .ok (.iconst 0, 1) := by decide +kernel
theorem dX12_first_2 : decode cX12_first 2 = .ok (.putfield 3, 3) := by decide +kernel
theorem dX12_first_5 : decode cX12_first 5 = .ok (.aload_n 0, 1) := by decide +kernel
theorem dX12_first_6 : decode cX12_first 6 = .ok (.iload_n 1, 1) := by decide +kernel
theorem dX12_first_7 : decode cX12_first 7 = .ok (.iconst 1, 1) := by decide +kernel
theorem dX12_first_8 : decode cX12_first 8 = .ok (.invokevirtual 377, 3) := by decide +kernel
theorem dX12_first_11 : decode cX12_first 11 = .ok (.ifCond .ne 5, 3) := by decide +kernel
theorem dX12_first_14 : decode cX12_first 14 = .ok (.iconst 0, 1) := by decide +kernel
theorem dX12_first_15 : decode cX12_first 15 = .ok (.ireturn, 1) := by decide +kernel
theorem dX12_first_16 : decode cX12_first 16 = .ok (.iconst (-1), 1) := by decide +kernel
theorem dX12_first_17 : decode cX12_first 17 = .ok (.istore_n 2, 1) := by decide +kernel
theorem dX12_first_18 : decode cX12_first 18 = .ok (.iconst 0, 1) := by decide +kernel
theorem dX12_first_19 : decode cX12_first 19 = .ok (.istore_n 3, 1) := by decide +kernel
theorem dX12_first_20 : decode cX12_first 20 = .ok (.iload_n 3, 1) := by decide +kernel
theorem dX12_first_21 : decode cX12_first 21 = .ok (.bipush 7, 2) := by decide +kernel
theorem dX12_first_23 : decode cX12_first 23 = .ok (.if_icmp .ge 58, 3) := by decide +kernel
theorem dX12_first_26 : decode cX12_first 26 = .ok (.aload_n 0, 1) := by decide +kernel
theorem dX12_first_27 : decode cX12_first 27 = .ok (.getfield 59, 3) := by decide +kernel
theorem dX12_first_30 : decode cX12_first 30 = .ok (.bipush 42, 2) := by decide +kernel
theorem dX12_first_32 : decode cX12_first 32 = .ok (.iload_n 1, 1) := by decide +kernel
theorem dX12_first_33 : decode cX12_first 33 = .ok (.iload_n 3, 1) := by decide +kernel
theorem dX12_first_34 : decode cX12_first 34 = .ok (.invokestatic 319, 3) := by decide +kernel
theorem dX12_first_37 : decode cX12_first 37 = .ok (.iaload, 1) := by decide +kernel
theorem dX12_first_38 : decode cX12_first 38 = .ok (.ifCond .le 37, 3) := by decide +kernel
theorem dX12_first_41 : decode cX12_first 41 = .ok (.iload_n 2, 1) := by decide +kernel
theorem dX12_first_42 : decode cX12_first 42 = .ok (.iconst (-1), 1) := by decide +kernel
theorem dX12_first_43 : decode cX12_first 43 = .ok (.if_icmp .eq 30, 3) := by decide +kernel
theorem dX12_first_46 : decode cX12_first 46 = .ok (.aload_n 0, 1) := by decide +kernel
theorem dX12_first_47 : decode cX12_first 47 = .ok (.getfield 59, 3) := by decide +kernel
theorem dX12_first_50 : decode cX12_first 50 = .ok (.bipush 84, 2) := by decide +kernel
theorem dX12_first_52 : decode cX12_first 52 = .ok (.iload_n 1, 1) := by decide +kernel
theorem dX12_first_53 : decode cX12_first 53 = .ok (.iload_n 3, 1) := by decide +kernel
theorem dX12_first_54 : decode cX12_first 54 = .ok (.invokestatic 319, 3) := by decide +kernel
theorem dX12_first_57 : decode cX12_first 57 = .ok (.iaload, 1) := by decide +kernel
theorem dX12_first_58 : decode cX12_first 58 = .ok (.aload_n 0, 1) := by decide +kernel
theorem dX12_first_59 : decode cX12_first 59 = .ok (.getfield 59, 3) := by decide +kernel
theorem dX12_first_62 : decode cX12_first 62 = .ok (.bipush 84, 2) := by decide +kernel
theorem dX12_first_64 : decode cX12_first 64 = .ok (.iload_n 1, 1) := by decide +kernel
theorem dX12_first_65 : decode cX12_first 65 = .ok (.iload_n 2, 1) := by decide +kernel
theorem dX12_first_66 : decode cX12_first 66 = .ok (.invokestatic 319, 3) := by decide +kernel
theorem dX12_first_69 : decode cX12_first 69 = .ok (.iaload, 1) := by decide +kernel
theorem dX12_first_70 : decode cX12_first 70 = .ok (.if_icmp .ge 5, 3) := by decide +kernel
theorem dX12_first_73 : decode cX12_first 73 = .ok (.iload_n 3, 1) := by decide +kernel
theorem dX12_first_74 : decode cX12_first 74 = .ok (.istore_n 2, 1) := by decide +kernel
theorem dX12_first_75 : decode cX12_first 75 = .ok (.iinc 3 1, 3) := by decide +kernel
theorem dX12_first_78 : decode cX12_first 78 = .ok (.goto (-58), 3) := by decide +kernel
theorem dX12_first_81 : decode cX12_first 81 = .ok (.iload_n 2, 1) := by decide +kernel
theorem dX12_first_82 : decode cX12_first 82 = .ok (.ireturn, 1) := by decide +kernel
theorem dX12_keepsRow_0 : decode cX12_keepsRow 0 = .ok (.iconst 0, 1) := by decide +kernel
theorem dX12_keepsRow_1 : decode cX12_keepsRow 1 = .ok (.istore 5, 2) := by decide +kernel
theorem dX12_keepsRow_3 : decode cX12_keepsRow 3 = .ok (.iload 5, 2) := by decide +kernel
theorem dX12_keepsRow_5 : decode cX12_keepsRow 5 = .ok (.iload_n 3, 1) := by decide +kernel
theorem dX12_keepsRow_6 : decode cX12_keepsRow 6 = .ok (.if_icmp .ge 43, 3) := by decide +kernel
theorem dX12_keepsRow_9 : decode cX12_keepsRow 9 = .ok (.iload 4, 2) := by decide +kernel
theorem dX12_keepsRow_11 : decode cX12_keepsRow 11 = .ok (.ifCond .eq 19, 3) := by decide +kernel
theorem dX12_keepsRow_14 : decode cX12_keepsRow 14 = .ok (.aload_n 0, 1) := by decide +kernel
theorem dX12_keepsRow_15 : decode cX12_keepsRow 15 = .ok (.getfield 86, 3) := by decide +kernel
theorem dX12_keepsRow_18 : decode cX12_keepsRow 18 = .ok (.iload_n 1, 1) := by decide +kernel
theorem dX12_keepsRow_19 : decode cX12_keepsRow 19 = .ok (.iload 5, 2) := by decide +kernel
theorem dX12_keepsRow_21 : decode cX12_keepsRow 21 = .ok (.iadd, 1) := by decide +kernel
theorem dX12_keepsRow_22 : decode cX12_keepsRow 22 = .ok (.aload_n 2, 1) := by decide +kernel
theorem dX12_keepsRow_23 : decode cX12_keepsRow 23 = .ok (.iload 5, 2) := by decide +kernel
theorem dX12_keepsRow_25 : decode cX12_keepsRow 25 = .ok (.iaload, 1) := by decide +kernel
theorem dX12_keepsRow_26 : decode cX12_keepsRow 26 = .ok (.iastore, 1) := by decide +kernel
theorem dX12_keepsRow_27 : decode cX12_keepsRow 27 = .ok (.goto 16, 3) := by decide +kernel
theorem dX12_keepsRow_30 : decode cX12_keepsRow 30 = .ok (.aload_n 2, 1) := by decide +kernel
theorem dX12_keepsRow_31 : decode cX12_keepsRow 31 = .ok (.iload 5, 2) := by decide +kernel
theorem dX12_keepsRow_33 : decode cX12_keepsRow 33 = .ok (.aload_n 0, 1) := by decide +kernel
theorem dX12_keepsRow_34 : decode cX12_keepsRow 34 = .ok (.getfield 86, 3) := by decide +kernel
theorem dX12_keepsRow_37 : decode cX12_keepsRow 37 = .ok (.iload_n 1, 1) := by decide +kernel
theorem dX12_keepsRow_38 : decode cX12_keepsRow 38 = .ok (.iload 5, 2) := by decide +kernel
theorem dX12_keepsRow_40 : decode cX12_keepsRow 40 = .ok (.iadd, 1) := by decide +kernel
theorem dX12_keepsRow_41 : decode cX12_keepsRow 41 = .ok (.iaload, 1) := by decide +kernel
theorem dX12_keepsRow_42 : decode cX12_keepsRow 42 = .ok (.iastore, 1) := by decide +kernel
theorem dX12_keepsRow_43 : decode cX12_keepsRow 43 = .ok (.iinc 5 1, 3) := by decide +kernel
theorem dX12_keepsRow_46 : decode cX12_keepsRow 46 = .ok (.goto (-43), 3) := by decide +kernel
theorem dX12_keepsRow_49 : decode cX12_keepsRow 49 = .ok (.iload_n 1, 1) := by decide +kernel
theorem dX12_keepsRow_50 : decode cX12_keepsRow 50 = .ok (.iload_n 3, 1) := by decide +kernel
theorem dX12_keepsRow_51 : decode cX12_keepsRow 51 = .ok (.iadd, 1) := by decide +kernel
theorem dX12_keepsRow_52 : decode cX12_keepsRow 52 = .ok (.ireturn, 1) := by decide +kernel
theorem dX12_ones_0 : decode cX12_ones 0 = .ok (.iconst 0, 1) := by decide +kernel
theorem dX12_ones_1 : decode cX12_ones 1 = .ok (.istore_n 1, 1) := by decide +kernel
theorem dX12_ones_2 : decode cX12_ones 2 = .ok (.iconst 0, 1) := by decide +kernel
theorem dX12_ones_3 : decode cX12_ones 3 = .ok (.istore_n 2, 1) := by decide +kernel
theorem dX12_ones_4 : decode cX12_ones 4 = .ok (.iload_n 2, 1) := by decide +kernel
theorem dX12_ones_5 : decode cX12_ones 5 = .ok (.bipush 8, 2) := by decide +kernel
theorem dX12_ones_7 : decode cX12_ones 7 = .ok (.if_icmp .ge 17, 3) := by decide +kernel
theorem dX12_ones_10 : decode cX12_ones 10 = .ok (.iload_n 1, 1) := by decide +kernel
theorem dX12_ones_11 : decode cX12_ones 11 = .ok (.iload_n 0, 1) := by decide +kernel
theorem dX12_ones_12 : decode cX12_ones 12 = .ok (.iload_n 2, 1) := by decide +kernel
theorem dX12_ones_13 : decode cX12_ones 13 = .ok (.ishr, 1) := by decide +kernel
theorem dX12_ones_14 : decode cX12_ones 14 = .ok (.iconst 1, 1) := by decide +kernel
theorem dX12_ones_15 : decode cX12_ones 15 = .ok (.iand, 1) := by decide +kernel
theorem dX12_ones_16 : decode cX12_ones 16 = .ok (.iadd, 1) := by decide +kernel
theorem dX12_ones_17 : decode cX12_ones 17 = .ok (.istore_n 1, 1) := by decide +kernel
theorem dX12_ones_18 : decode cX12_ones 18 = .ok (.iinc 2 1, 3) := by decide +kernel
theorem dX12_ones_21 : decode cX12_ones 21 = .ok (.goto (-17), 3) := by decide +kernel
theorem dX12_ones_24 : decode cX12_ones 24 = .ok (.iload_n 1, 1) := by decide +kernel
theorem dX12_ones_25 : decode cX12_ones 25 = .ok (.ireturn, 1) := by decide +kernel
theorem dX12_restore_0 : decode cX12_restore 0 = .ok (.aload_n 0, 1) := by decide +kernel
theorem dX12_restore_1 : decode cX12_restore 1 = .ok (.iconst 0, 1) := by decide +kernel
theorem dX12_restore_2 : decode cX12_restore 2 = .ok (.putfield 3, 3) := by decide +kernel
theorem dX12_restore_5 : decode cX12_restore 5 = .ok (.aload_n 0, 1) := by decide +kernel
theorem dX12_restore_6 : decode cX12_restore 6 = .ok (.getfield 172, 3) := by decide +kernel
theorem dX12_restore_9 : decode cX12_restore 9 = .ok (.ifCond .ne 5, 3) := by decide +kernel
theorem dX12_restore_12 : decode cX12_restore 12 = .ok (.iconst (-1), 1) := by decide +kernel
theorem dX12_restore_13 : decode cX12_restore 13 = .ok (.ireturn, 1) := by decide +kernel
theorem dX12_restore_14 : decode cX12_restore 14 = .ok (.aload_n 0, 1) := by decide +kernel
theorem dX12_restore_15 : decode cX12_restore 15 = .ok (.dup, 1) := by decide +kernel
theorem dX12_restore_16 : decode cX12_restore 16 = .ok (.getfield 172, 3) := by decide +kernel
theorem dX12_restore_19 : decode cX12_restore 19 = .ok (.iconst 1, 1) := by decide +kernel
theorem dX12_restore_20 : decode cX12_restore 20 = .ok (.isub, 1) := by decide +kernel
theorem dX12_restore_21 : decode cX12_restore 21 = .ok (.putfield 172, 3) := by decide +kernel
theorem dX12_restore_24 : decode cX12_restore 24 = .ok (.aload_n 0, 1) := by decide +kernel
theorem dX12_restore_25 : decode cX12_restore 25 = .ok (.aload_n 0, 1) := by decide +kernel
theorem dX12_restore_26 : decode cX12_restore 26 = .ok (.getfield 172, 3) := by decide +kernel
theorem dX12_restore_29 : decode cX12_restore 29 = .ok (.iconst 0, 1) := by decide +kernel
theorem dX12_restore_30 : decode cX12_restore 30 = .ok (.invokevirtual 468, 3) := by decide +kernel
theorem dX12_restore_33 : decode cX12_restore 33 = .ok (.aload_n 0, 1) := by decide +kernel
theorem dX12_restore_34 : decode cX12_restore 34 = .ok (.iconst 0, 1) := by decide +kernel
theorem dX12_restore_35 : decode cX12_restore 35 = .ok (.putfield 175, 3) := by decide +kernel
theorem dX12_restore_38 : decode cX12_restore 38 = .ok (.aload_n 0, 1) := by decide +kernel
theorem dX12_restore_39 : decode cX12_restore 39 = .ok (.getfield 172, 3) := by decide +kernel
theorem dX12_restore_42 : decode cX12_restore 42 = .ok (.ireturn, 1) := by decide +kernel
theorem dX12_votesOf_0 : decode cX12_votesOf 0 = .ok (.iconst 0, 1) := by decide +kernel
theorem dX12_votesOf_1 : decode cX12_votesOf 1 = .ok (.istore_n 3, 1) := by decide +kernel
theorem dX12_votesOf_2 : decode cX12_votesOf 2 = .ok (.iconst 0, 1) := by decide +kernel
theorem dX12_votesOf_3 : decode cX12_votesOf 3 = .ok (.istore 4, 2) := by decide +kernel
theorem dX12_votesOf_5 : decode cX12_votesOf 5 = .ok (.iload 4, 2) := by decide +kernel
theorem dX12_votesOf_7 : decode cX12_votesOf 7 = .ok (.bipush 7, 2) := by decide +kernel
theorem dX12_votesOf_9 : decode cX12_votesOf 9 = .ok (.if_icmp .ge 31, 3) := by decide +kernel
theorem dX12_votesOf_12 : decode cX12_votesOf 12 = .ok (.iload_n 3, 1) := by decide +kernel
theorem dX12_votesOf_13 : decode cX12_votesOf 13 = .ok (.iload_n 2, 1) := by decide +kernel
theorem dX12_votesOf_14 : decode cX12_votesOf 14 = .ok (.iload 4, 2) := by decide +kernel
theorem dX12_votesOf_16 : decode cX12_votesOf 16 = .ok (.ishr, 1) := by decide +kernel
theorem dX12_votesOf_17 : decode cX12_votesOf 17 = .ok (.iconst 1, 1) := by decide +kernel
theorem dX12_votesOf_18 : decode cX12_votesOf 18 = .ok (.iand, 1) := by decide +kernel
theorem dX12_votesOf_19 : decode cX12_votesOf 19 = .ok (.aload_n 0, 1) := by decide +kernel
theorem dX12_votesOf_20 : decode cX12_votesOf 20 = .ok (.getfield 59, 3) := by decide +kernel
theorem dX12_votesOf_23 : decode cX12_votesOf 23 = .ok (.iconst 0, 1) := by decide +kernel
theorem dX12_votesOf_24 : decode cX12_votesOf 24 = .ok (.iload_n 1, 1) := by decide +kernel
theorem dX12_votesOf_25 : decode cX12_votesOf 25 = .ok (.iload 4, 2) := by decide +kernel
theorem dX12_votesOf_27 : decode cX12_votesOf 27 = .ok (.invokestatic 319, 3) := by decide +kernel
theorem dX12_votesOf_30 : decode cX12_votesOf 30 = .ok (.iaload, 1) := by decide +kernel
theorem dX12_votesOf_31 : decode cX12_votesOf 31 = .ok (.imul, 1) := by decide +kernel
theorem dX12_votesOf_32 : decode cX12_votesOf 32 = .ok (.iadd, 1) := by decide +kernel
theorem dX12_votesOf_33 : decode cX12_votesOf 33 = .ok (.istore_n 3, 1) := by decide +kernel
theorem dX12_votesOf_34 : decode cX12_votesOf 34 = .ok (.iinc 4 1, 3) := by decide +kernel
theorem dX12_votesOf_37 : decode cX12_votesOf 37 = .ok (.goto (-32), 3) := by decide +kernel
theorem dX12_votesOf_40 : decode cX12_votesOf 40 = .ok (.iload_n 3, 1) := by decide +kernel
theorem dX12_votesOf_41 : decode cX12_votesOf 41 = .ok (.ireturn, 1) := by decide +kernel
theorem dX12_mates_0 : decode cX12_mates 0 = .ok (.aload_n 0, 1) := by decide +kernel
theorem dX12_mates_1 : decode cX12_mates 1 = .ok (.iconst 0, 1) := by decide +kernel
theorem dX12_mates_2 : decode cX12_mates 2 = .ok (.putfield 3, 3) := by decide +kernel
theorem dX12_mates_5 : decode cX12_mates 5 = .ok (.aload_n 0, 1) := by decide +kernel
theorem dX12_mates_6 : decode cX12_mates 6 = .ok (.iload_n 1, 1) := by decide +kernel
theorem dX12_mates_7 : decode cX12_mates 7 = .ok (.iconst 1, 1) := by decide +kernel
theorem dX12_mates_8 : decode cX12_mates 8 = .ok (.invokevirtual 377, 3) := by decide +kernel
theorem dX12_mates_11 : decode cX12_mates 11 = .ok (.ifCond .ne 5, 3) := by decide +kernel
theorem dX12_mates_14 : decode cX12_mates 14 = .ok (.iconst 0, 1) := by decide +kernel
theorem dX12_mates_15 : decode cX12_mates 15 = .ok (.ireturn, 1) := by decide +kernel
theorem dX12_mates_16 : decode cX12_mates 16 = .ok (.aload_n 0, 1) := by decide +kernel
theorem dX12_mates_17 : decode cX12_mates 17 = .ok (.invokevirtual 301, 3) := by decide +kernel
theorem dX12_mates_20 : decode cX12_mates 20 = .ok (.iconst 0, 1) := by decide +kernel
theorem dX12_mates_21 : decode cX12_mates 21 = .ok (.istore_n 2, 1) := by decide +kernel
theorem dX12_mates_22 : decode cX12_mates 22 = .ok (.iconst 0, 1) := by decide +kernel
theorem dX12_mates_23 : decode cX12_mates 23 = .ok (.istore_n 3, 1) := by decide +kernel
theorem dX12_mates_24 : decode cX12_mates 24 = .ok (.iload_n 3, 1) := by decide +kernel
theorem dX12_mates_25 : decode cX12_mates 25 = .ok (.aload_n 0, 1) := by decide +kernel
theorem dX12_mates_26 : decode cX12_mates 26 = .ok (.getfield 150, 3) := by decide +kernel
theorem dX12_mates_29 : decode cX12_mates 29 = .ok (.if_icmp .ge 51, 3) := by decide +kernel
theorem dX12_mates_32 : decode cX12_mates 32 = .ok (.iconst 1, 1) := by decide +kernel
theorem dX12_mates_33 : decode cX12_mates 33 = .ok (.iload_n 1, 1) := by decide +kernel
theorem dX12_mates_34 : decode cX12_mates 34 = .ok (.ishl, 1) := by decide +kernel
theorem dX12_mates_35 : decode cX12_mates 35 = .ok (.iconst 1, 1) := by decide +kernel
theorem dX12_mates_36 : decode cX12_mates 36 = .ok (.iload_n 3, 1) := by decide +kernel
theorem dX12_mates_37 : decode cX12_mates 37 = .ok (.ishl, 1) := by decide +kernel
theorem dX12_mates_38 : decode cX12_mates 38 = .ok (.ior, 1) := by decide +kernel
theorem dX12_mates_39 : decode cX12_mates 39 = .ok (.istore 4, 2) := by decide +kernel
theorem dX12_mates_41 : decode cX12_mates 41 = .ok (.iload_n 2, 1) := by decide +kernel
theorem dX12_mates_42 : decode cX12_mates 42 = .ok (.iload_n 3, 1) := by decide +kernel
theorem dX12_mates_43 : decode cX12_mates 43 = .ok (.iload_n 1, 1) := by decide +kernel
theorem dX12_mates_44 : decode cX12_mates 44 = .ok (.if_icmp .eq 27, 3) := by decide +kernel
theorem dX12_mates_47 : decode cX12_mates 47 = .ok (.aload_n 0, 1) := by decide +kernel
theorem dX12_mates_48 : decode cX12_mates 48 = .ok (.iload 4, 2) := by decide +kernel
theorem dX12_mates_50 : decode cX12_mates 50 = .ok (.invokevirtual 398, 3) := by decide +kernel
theorem dX12_mates_53 : decode cX12_mates 53 = .ok (.ifCond .ne 18, 3) := by decide +kernel
theorem dX12_mates_56 : decode cX12_mates 56 = .ok (.aload_n 0, 1) := by decide +kernel
theorem dX12_mates_57 : decode cX12_mates 57 = .ok (.iload 4, 2) := by decide +kernel
theorem dX12_mates_59 : decode cX12_mates 59 = .ok (.invokevirtual 401, 3) := by decide +kernel
theorem dX12_mates_62 : decode cX12_mates 62 = .ok (.ifCond .le 9, 3) := by decide +kernel
theorem dX12_mates_65 : decode cX12_mates 65 = .ok (.iconst 1, 1) := by decide +kernel
theorem dX12_mates_66 : decode cX12_mates 66 = .ok (.iload_n 3, 1) := by decide +kernel
theorem dX12_mates_67 : decode cX12_mates 67 = .ok (.ishl, 1) := by decide +kernel
theorem dX12_mates_68 : decode cX12_mates 68 = .ok (.goto 4, 3) := by decide +kernel
theorem dX12_mates_71 : decode cX12_mates 71 = .ok (.iconst 0, 1) := by decide +kernel
theorem dX12_mates_72 : decode cX12_mates 72 = .ok (.ior, 1) := by decide +kernel
theorem dX12_mates_73 : decode cX12_mates 73 = .ok (.istore_n 2, 1) := by decide +kernel
theorem dX12_mates_74 : decode cX12_mates 74 = .ok (.iinc 3 1, 3) := by decide +kernel
theorem dX12_mates_77 : decode cX12_mates 77 = .ok (.goto (-53), 3) := by decide +kernel
theorem dX12_mates_80 : decode cX12_mates 80 = .ok (.iload_n 2, 1) := by decide +kernel
theorem dX12_mates_81 : decode cX12_mates 81 = .ok (.ireturn, 1) := by decide +kernel
theorem dX12_blurs_0 : decode cX12_blurs 0 = .ok (.aload_n 0, 1) := by decide +kernel
theorem dX12_blurs_1 : decode cX12_blurs 1 = .ok (.iconst 0, 1) := by decide +kernel
theorem dX12_blurs_2 : decode cX12_blurs 2 = .ok (.putfield 3, 3) := by decide +kernel
theorem dX12_blurs_5 : decode cX12_blurs 5 = .ok (.aload_n 0, 1) := by decide +kernel
theorem dX12_blurs_6 : decode cX12_blurs 6 = .ok (.iload_n 1, 1) := by decide +kernel
theorem dX12_blurs_7 : decode cX12_blurs 7 = .ok (.iconst 1, 1) := by decide +kernel
theorem dX12_blurs_8 : decode cX12_blurs 8 = .ok (.invokevirtual 377, 3) := by decide +kernel
theorem dX12_blurs_11 : decode cX12_blurs 11 = .ok (.ifCond .ne 5, 3) := by decide +kernel
theorem dX12_blurs_14 : decode cX12_blurs 14 = .ok (.iconst 0, 1) := by decide +kernel
theorem dX12_blurs_15 : decode cX12_blurs 15 = .ok (.ireturn, 1) := by decide +kernel
theorem dX12_blurs_16 : decode cX12_blurs 16 = .ok (.iconst 0, 1) := by decide +kernel
theorem dX12_blurs_17 : decode cX12_blurs 17 = .ok (.istore_n 2, 1) := by decide +kernel
theorem dX12_blurs_18 : decode cX12_blurs 18 = .ok (.iconst 0, 1) := by decide +kernel
theorem dX12_blurs_19 : decode cX12_blurs 19 = .ok (.istore_n 3, 1) := by decide +kernel
theorem dX12_blurs_20 : decode cX12_blurs 20 = .ok (.iload_n 3, 1) := by decide +kernel
theorem dX12_blurs_21 : decode cX12_blurs 21 = .ok (.aload_n 0, 1) := by decide +kernel
theorem dX12_blurs_22 : decode cX12_blurs 22 = .ok (.getfield 153, 3) := by decide +kernel
theorem dX12_blurs_25 : decode cX12_blurs 25 = .ok (.if_icmp .ge 40, 3) := by decide +kernel
theorem dX12_blurs_28 : decode cX12_blurs 28 = .ok (.aload_n 0, 1) := by decide +kernel
theorem dX12_blurs_29 : decode cX12_blurs 29 = .ok (.invokevirtual 301, 3) := by decide +kernel
theorem dX12_blurs_32 : decode cX12_blurs 32 = .ok (.iload_n 2, 1) := by decide +kernel
theorem dX12_blurs_33 : decode cX12_blurs 33 = .ok (.aload_n 0, 1) := by decide +kernel
theorem dX12_blurs_34 : decode cX12_blurs 34 = .ok (.iload_n 1, 1) := by decide +kernel
theorem dX12_blurs_35 : decode cX12_blurs 35 = .ok (.iload_n 3, 1) := by decide +kernel
theorem dX12_blurs_36 : decode cX12_blurs 36 = .ok (.invokevirtual 345, 3) := by decide +kernel
theorem dX12_blurs_39 : decode cX12_blurs 39 = .ok (.ifCond .eq 17, 3) := by decide +kernel
theorem dX12_blurs_42 : decode cX12_blurs 42 = .ok (.aload_n 0, 1) := by decide +kernel
theorem dX12_blurs_43 : decode cX12_blurs 43 = .ok (.iload_n 1, 1) := by decide +kernel
theorem dX12_blurs_44 : decode cX12_blurs 44 = .ok (.invokevirtual 444, 3) := by decide +kernel
theorem dX12_blurs_47 : decode cX12_blurs 47 = .ok (.ifCond .eq 9, 3) := by decide +kernel
theorem dX12_blurs_50 : decode cX12_blurs 50 = .ok (.iconst 1, 1) := by decide +kernel
theorem dX12_blurs_51 : decode cX12_blurs 51 = .ok (.iload_n 3, 1) := by decide +kernel
theorem dX12_blurs_52 : decode cX12_blurs 52 = .ok (.ishl, 1) := by decide +kernel
theorem dX12_blurs_53 : decode cX12_blurs 53 = .ok (.goto 4, 3) := by decide +kernel
theorem dX12_blurs_56 : decode cX12_blurs 56 = .ok (.iconst 0, 1) := by decide +kernel
theorem dX12_blurs_57 : decode cX12_blurs 57 = .ok (.ior, 1) := by decide +kernel
theorem dX12_blurs_58 : decode cX12_blurs 58 = .ok (.istore_n 2, 1) := by decide +kernel
theorem dX12_blurs_59 : decode cX12_blurs 59 = .ok (.iinc 3 1, 3) := by decide +kernel
theorem dX12_blurs_62 : decode cX12_blurs 62 = .ok (.goto (-42), 3) := by decide +kernel
theorem dX12_blurs_65 : decode cX12_blurs 65 = .ok (.iload_n 2, 1) := by decide +kernel
theorem dX12_blurs_66 : decode cX12_blurs 66 = .ok (.ireturn, 1) := by decide +kernel
theorem dX12_draws_0 : decode cX12_draws 0 = .ok (.aload_n 0, 1) := by decide +kernel
theorem dX12_draws_1 : decode cX12_draws 1 = .ok (.aload_n 0, 1) := by decide +kernel
theorem dX12_draws_2 : decode cX12_draws 2 = .ok (.getfield 450, 3) := by decide +kernel
theorem dX12_draws_5 : decode cX12_draws 5 = .ok (.ldc_w 453, 3) := by decide +kernel
theorem dX12_draws_8 : decode cX12_draws 8 = .ok (.imul, 1) := by decide +kernel
theorem dX12_draws_9 : decode cX12_draws 9 = .ok (.sipush 12345, 3) := by decide +kernel
theorem dX12_draws_12 : decode cX12_draws 12 = .ok (.iadd, 1) := by decide +kernel
theorem dX12_draws_13 : decode cX12_draws 13 = .ok (.putfield 450, 3) := by decide +kernel
theorem dX12_draws_16 : decode cX12_draws 16 = .ok (.aload_n 0, 1) := by decide +kernel
theorem dX12_draws_17 : decode cX12_draws 17 = .ok (.getfield 450, 3) := by decide +kernel
theorem dX12_draws_20 : decode cX12_draws 20 = .ok (.bipush 16, 2) := by decide +kernel
theorem dX12_draws_22 : decode cX12_draws 22 = .ok (.ishr, 1) := by decide +kernel
theorem dX12_draws_23 : decode cX12_draws 23 = .ok (.sipush 32767, 3) := by decide +kernel
theorem dX12_draws_26 : decode cX12_draws 26 = .ok (.iand, 1) := by decide +kernel
theorem dX12_draws_27 : decode cX12_draws 27 = .ok (.iload_n 1, 1) := by decide +kernel
theorem dX12_draws_28 : decode cX12_draws 28 = .ok (.irem, 1) := by decide +kernel
theorem dX12_draws_29 : decode cX12_draws 29 = .ok (.ireturn, 1) := by decide +kernel
theorem dX12_span_0 : decode cX12_span 0 = .ok (.aload_n 0, 1) := by decide +kernel
theorem dX12_span_1 : decode cX12_span 1 = .ok (.iconst 0, 1) := by decide +kernel
theorem dX12_span_2 : decode cX12_span 2 = .ok (.putfield 3, 3) := by decide +kernel
theorem dX12_span_5 : decode cX12_span 5 = .ok (.aload_n 0, 1) := by decide +kernel
theorem dX12_span_6 : decode cX12_span 6 = .ok (.iload_n 2, 1) := by decide +kernel
theorem dX12_span_7 : decode cX12_span 7 = .ok (.iconst 1, 1) := by decide +kernel
theorem dX12_span_8 : decode cX12_span 8 = .ok (.bipush 10, 2) := by decide +kernel
theorem dX12_span_10 : decode cX12_span 10 = .ok (.invokestatic 368, 3) := by decide +kernel
theorem dX12_span_13 : decode cX12_span 13 = .ok (.ifCond .eq 41, 3) := by decide +kernel
theorem dX12_span_16 : decode cX12_span 16 = .ok (.iload_n 3, 1) := by decide +kernel
theorem dX12_span_17 : decode cX12_span 17 = .ok (.iload 4, 2) := by decide +kernel
theorem dX12_span_19 : decode cX12_span 19 = .ok (.invokestatic 457, 3) := by decide +kernel
theorem dX12_span_22 : decode cX12_span 22 = .ok (.ifCond .eq 32, 3) := by decide +kernel
theorem dX12_span_25 : decode cX12_span 25 = .ok (.iload 5, 2) := by decide +kernel
theorem dX12_span_27 : decode cX12_span 27 = .ok (.iconst 0, 1) := by decide +kernel
theorem dX12_span_28 : decode cX12_span 28 = .ok (.iconst 2, 1) := by decide +kernel
theorem dX12_span_29 : decode cX12_span 29 = .ok (.invokestatic 368, 3) := by decide +kernel
theorem dX12_span_32 : decode cX12_span 32 = .ok (.ifCond .eq 22, 3) := by decide +kernel
theorem dX12_span_35 : decode cX12_span 35 = .ok (.iload 6, 2) := by decide +kernel
theorem dX12_span_37 : decode cX12_span 37 = .ok (.iconst 0, 1) := by decide +kernel
theorem dX12_span_38 : decode cX12_span 38 = .ok (.aload_n 0, 1) := by decide +kernel
theorem dX12_span_39 : decode cX12_span 39 = .ok (.getfield 150, 3) := by decide +kernel
theorem dX12_span_42 : decode cX12_span 42 = .ok (.iconst 1, 1) := by decide +kernel
theorem dX12_span_43 : decode cX12_span 43 = .ok (.isub, 1) := by decide +kernel
theorem dX12_span_44 : decode cX12_span 44 = .ok (.invokestatic 368, 3) := by decide +kernel
theorem dX12_span_47 : decode cX12_span 47 = .ok (.ifCond .eq 7, 3) := by decide +kernel
theorem dX12_span_50 : decode cX12_span 50 = .ok (.iconst 1, 1) := by decide +kernel
theorem dX12_span_51 : decode cX12_span 51 = .ok (.goto 4, 3) := by decide +kernel
theorem dX12_span_54 : decode cX12_span 54 = .ok (.iconst 0, 1) := by decide +kernel
theorem dX12_span_55 : decode cX12_span 55 = .ok (.iconst 1, 1) := by decide +kernel
theorem dX12_span_56 : decode cX12_span 56 = .ok (.iconst 1, 1) := by decide +kernel
theorem dX12_span_57 : decode cX12_span 57 = .ok (.invokevirtual 190, 3) := by decide +kernel
theorem dX12_span_60 : decode cX12_span 60 = .ok (.ifCond .ne 5, 3) := by decide +kernel
theorem dX12_span_63 : decode cX12_span 63 = .ok (.iconst 0, 1) := by decide +kernel
theorem dX12_span_64 : decode cX12_span 64 = .ok (.ireturn, 1) := by decide +kernel
theorem dX12_span_65 : decode cX12_span 65 = .ok (.iconst (-1), 1) := by decide +kernel
theorem dX12_span_66 : decode cX12_span 66 = .ok (.istore 7, 2) := by decide +kernel
theorem dX12_span_68 : decode cX12_span 68 = .ok (.iconst 0, 1) := by decide +kernel
theorem dX12_span_69 : decode cX12_span 69 = .ok (.istore 8, 2) := by decide +kernel
theorem dX12_span_71 : decode cX12_span 71 = .ok (.iconst 0, 1) := by decide +kernel
theorem dX12_span_72 : decode cX12_span 72 = .ok (.istore 9, 2) := by decide +kernel
theorem dX12_span_74 : decode cX12_span 74 = .ok (.iconst 0, 1) := by decide +kernel
theorem dX12_span_75 : decode cX12_span 75 = .ok (.istore 10, 2) := by decide +kernel
theorem dX12_span_77 : decode cX12_span 77 = .ok (.iload 10, 2) := by decide +kernel
theorem dX12_span_79 : decode cX12_span 79 = .ok (.iload_n 2, 1) := by decide +kernel
theorem dX12_span_80 : decode cX12_span 80 = .ok (.if_icmp .ge 86, 3) := by decide +kernel
theorem dX12_span_83 : decode cX12_span 83 = .ok (.aload_n 0, 1) := by decide +kernel
theorem dX12_span_84 : decode cX12_span 84 = .ok (.iload_n 1, 1) := by decide +kernel
theorem dX12_span_85 : decode cX12_span 85 = .ok (.iload 10, 2) := by decide +kernel
theorem dX12_span_87 : decode cX12_span 87 = .ok (.iadd, 1) := by decide +kernel
theorem dX12_span_88 : decode cX12_span 88 = .ok (.iload_n 3, 1) := by decide +kernel
theorem dX12_span_89 : decode cX12_span 89 = .ok (.iload 4, 2) := by decide +kernel
theorem dX12_span_91 : decode cX12_span 91 = .ok (.invokevirtual 460, 3) := by decide +kernel
theorem dX12_span_94 : decode cX12_span 94 = .ok (.aload_n 0, 1) := by decide +kernel
theorem dX12_span_95 : decode cX12_span 95 = .ok (.iconst 0, 1) := by decide +kernel
theorem dX12_span_96 : decode cX12_span 96 = .ok (.bipush 42, 2) := by decide +kernel
theorem dX12_span_98 : decode cX12_span 98 = .ok (.invokevirtual 322, 3) := by decide +kernel
theorem dX12_span_101 : decode cX12_span 101 = .ok (.istore 11, 2) := by decide +kernel
theorem dX12_span_103 : decode cX12_span 103 = .ok (.iload 7, 2) := by decide +kernel
theorem dX12_span_105 : decode cX12_span 105 = .ok (.iconst (-1), 1) := by decide +kernel
theorem dX12_span_106 : decode cX12_span 106 = .ok (.if_icmp .eq 10, 3) := by decide +kernel
theorem dX12_span_109 : decode cX12_span 109 = .ok (.iload 11, 2) := by decide +kernel
theorem dX12_span_111 : decode cX12_span 111 = .ok (.iload 7, 2) := by decide +kernel
theorem dX12_span_113 : decode cX12_span 113 = .ok (.if_icmp .ge 8, 3) := by decide +kernel
theorem dX12_span_116 : decode cX12_span 116 = .ok (.iload 11, 2) := by decide +kernel
theorem dX12_span_118 : decode cX12_span 118 = .ok (.goto 5, 3) := by decide +kernel
theorem dX12_span_121 : decode cX12_span 121 = .ok (.iload 7, 2) := by decide +kernel
theorem dX12_span_123 : decode cX12_span 123 = .ok (.istore 7, 2) := by decide +kernel
theorem dX12_span_125 : decode cX12_span 125 = .ok (.iload 11, 2) := by decide +kernel
theorem dX12_span_127 : decode cX12_span 127 = .ok (.iload 8, 2) := by decide +kernel
theorem dX12_span_129 : decode cX12_span 129 = .ok (.if_icmp .le 8, 3) := by decide +kernel
theorem dX12_span_132 : decode cX12_span 132 = .ok (.iload 11, 2) := by decide +kernel
theorem dX12_span_134 : decode cX12_span 134 = .ok (.goto 5, 3) := by decide +kernel
theorem dX12_span_137 : decode cX12_span 137 = .ok (.iload 8, 2) := by decide +kernel
theorem dX12_span_139 : decode cX12_span 139 = .ok (.istore 8, 2) := by decide +kernel
theorem dX12_span_141 : decode cX12_span 141 = .ok (.iload 9, 2) := by decide +kernel
theorem dX12_span_143 : decode cX12_span 143 = .ok (.aload_n 0, 1) := by decide +kernel
theorem dX12_span_144 : decode cX12_span 144 = .ok (.iload 6, 2) := by decide +kernel
theorem dX12_span_146 : decode cX12_span 146 = .ok (.invokevirtual 328, 3) := by decide +kernel
theorem dX12_span_149 : decode cX12_span 149 = .ok (.ifCond .le 7, 3) := by decide +kernel
theorem dX12_span_152 : decode cX12_span 152 = .ok (.iconst 1, 1) := by decide +kernel
theorem dX12_span_153 : decode cX12_span 153 = .ok (.goto 4, 3) := by decide +kernel
theorem dX12_span_156 : decode cX12_span 156 = .ok (.iconst 0, 1) := by decide +kernel
theorem dX12_span_157 : decode cX12_span 157 = .ok (.iadd, 1) := by decide +kernel
theorem dX12_span_158 : decode cX12_span 158 = .ok (.istore 9, 2) := by decide +kernel
theorem dX12_span_160 : decode cX12_span 160 = .ok (.iinc 10 1, 3) := by decide +kernel
theorem dX12_span_163 : decode cX12_span 163 = .ok (.goto (-86), 3) := by decide +kernel
theorem dX12_span_166 : decode cX12_span 166 = .ok (.iload 5, 2) := by decide +kernel
theorem dX12_span_168 : decode cX12_span 168 = .ok (.ifCond .ne 8, 3) := by decide +kernel
theorem dX12_span_171 : decode cX12_span 171 = .ok (.iload 7, 2) := by decide +kernel
theorem dX12_span_173 : decode cX12_span 173 = .ok (.goto 16, 3) := by decide +kernel
theorem dX12_span_176 : decode cX12_span 176 = .ok (.iload 5, 2) := by decide +kernel
theorem dX12_span_178 : decode cX12_span 178 = .ok (.iconst 1, 1) := by decide +kernel
theorem dX12_span_179 : decode cX12_span 179 = .ok (.if_icmp .ne 8, 3) := by decide +kernel
theorem dX12_span_182 : decode cX12_span 182 = .ok (.iload 8, 2) := by decide +kernel
theorem dX12_span_184 : decode cX12_span 184 = .ok (.goto 5, 3) := by decide +kernel
theorem dX12_span_187 : decode cX12_span 187 = .ok (.iload 9, 2) := by decide +kernel
theorem dX12_span_189 : decode cX12_span 189 = .ok (.ireturn, 1) := by decide +kernel
theorem dX12_serves_0 : decode cX12_serves 0 = .ok (.aload_n 0, 1) := by decide +kernel
theorem dX12_serves_1 : decode cX12_serves 1 = .ok (.iconst 0, 1) := by decide +kernel
theorem dX12_serves_2 : decode cX12_serves 2 = .ok (.putfield 3, 3) := by decide +kernel
theorem dX12_serves_5 : decode cX12_serves 5 = .ok (.aload_n 0, 1) := by decide +kernel
theorem dX12_serves_6 : decode cX12_serves 6 = .ok (.iload_n 1, 1) := by decide +kernel
theorem dX12_serves_7 : decode cX12_serves 7 = .ok (.invokestatic 386, 3) := by decide +kernel
theorem dX12_serves_10 : decode cX12_serves 10 = .ok (.ifCond .eq 18, 3) := by decide +kernel
theorem dX12_serves_13 : decode cX12_serves 13 = .ok (.iload_n 2, 1) := by decide +kernel
theorem dX12_serves_14 : decode cX12_serves 14 = .ok (.iconst 0, 1) := by decide +kernel
theorem dX12_serves_15 : decode cX12_serves 15 = .ok (.sipush 400, 3) := by decide +kernel
theorem dX12_serves_18 : decode cX12_serves 18 = .ok (.invokestatic 368, 3) := by decide +kernel
theorem dX12_serves_21 : decode cX12_serves 21 = .ok (.ifCond .eq 7, 3) := by decide +kernel
theorem dX12_serves_24 : decode cX12_serves 24 = .ok (.iconst 1, 1) := by decide +kernel
theorem dX12_serves_25 : decode cX12_serves 25 = .ok (.goto 4, 3) := by decide +kernel
theorem dX12_serves_28 : decode cX12_serves 28 = .ok (.iconst 0, 1) := by decide +kernel
theorem dX12_serves_29 : decode cX12_serves 29 = .ok (.iconst 1, 1) := by decide +kernel
theorem dX12_serves_30 : decode cX12_serves 30 = .ok (.iconst 1, 1) := by decide +kernel
theorem dX12_serves_31 : decode cX12_serves 31 = .ok (.invokevirtual 190, 3) := by decide +kernel
theorem dX12_serves_34 : decode cX12_serves 34 = .ok (.ifCond .ne 5, 3) := by decide +kernel
theorem dX12_serves_37 : decode cX12_serves 37 = .ok (.iconst 0, 1) := by decide +kernel
theorem dX12_serves_38 : decode cX12_serves 38 = .ok (.ireturn, 1) := by decide +kernel
theorem dX12_serves_39 : decode cX12_serves 39 = .ok (.iconst (-1), 1) := by decide +kernel
theorem dX12_serves_40 : decode cX12_serves 40 = .ok (.istore_n 3, 1) := by decide +kernel
theorem dX12_serves_41 : decode cX12_serves 41 = .ok (.iconst 0, 1) := by decide +kernel
theorem dX12_serves_42 : decode cX12_serves 42 = .ok (.istore 4, 2) := by decide +kernel
theorem dX12_serves_44 : decode cX12_serves 44 = .ok (.iload 4, 2) := by decide +kernel
theorem dX12_serves_46 : decode cX12_serves 46 = .ok (.aload_n 0, 1) := by decide +kernel
theorem dX12_serves_47 : decode cX12_serves 47 = .ok (.getfield 150, 3) := by decide +kernel
theorem dX12_serves_50 : decode cX12_serves 50 = .ok (.if_icmp .ge 53, 3) := by decide +kernel
theorem dX12_serves_53 : decode cX12_serves 53 = .ok (.iload_n 3, 1) := by decide +kernel
theorem dX12_serves_54 : decode cX12_serves 54 = .ok (.iconst (-1), 1) := by decide +kernel
theorem dX12_serves_55 : decode cX12_serves 55 = .ok (.if_icmp .eq 39, 3) := by decide +kernel
theorem dX12_serves_58 : decode cX12_serves 58 = .ok (.aload_n 0, 1) := by decide +kernel
theorem dX12_serves_59 : decode cX12_serves 59 = .ok (.getfield 59, 3) := by decide +kernel
theorem dX12_serves_62 : decode cX12_serves 62 = .ok (.iconst 0, 1) := by decide +kernel
theorem dX12_serves_63 : decode cX12_serves 63 = .ok (.iload 4, 2) := by decide +kernel
theorem dX12_serves_65 : decode cX12_serves 65 = .ok (.iload_n 1, 1) := by decide +kernel
theorem dX12_serves_66 : decode cX12_serves 66 = .ok (.invokestatic 319, 3) := by decide +kernel
theorem dX12_serves_69 : decode cX12_serves 69 = .ok (.iaload, 1) := by decide +kernel
theorem dX12_serves_70 : decode cX12_serves 70 = .ok (.iload_n 2, 1) := by decide +kernel
theorem dX12_serves_71 : decode cX12_serves 71 = .ok (.isub, 1) := by decide +kernel
theorem dX12_serves_72 : decode cX12_serves 72 = .ok (.invokestatic 407, 3) := by decide +kernel
theorem dX12_serves_75 : decode cX12_serves 75 = .ok (.aload_n 0, 1) := by decide +kernel
theorem dX12_serves_76 : decode cX12_serves 76 = .ok (.getfield 59, 3) := by decide +kernel
theorem dX12_serves_79 : decode cX12_serves 79 = .ok (.iconst 0, 1) := by decide +kernel
theorem dX12_serves_80 : decode cX12_serves 80 = .ok (.iload_n 3, 1) := by decide +kernel
theorem dX12_serves_81 : decode cX12_serves 81 = .ok (.iload_n 1, 1) := by decide +kernel
theorem dX12_serves_82 : decode cX12_serves 82 = .ok (.invokestatic 319, 3) := by decide +kernel
theorem dX12_serves_85 : decode cX12_serves 85 = .ok (.iaload, 1) := by decide +kernel
theorem dX12_serves_86 : decode cX12_serves 86 = .ok (.iload_n 2, 1) := by decide +kernel
theorem dX12_serves_87 : decode cX12_serves 87 = .ok (.isub, 1) := by decide +kernel
theorem dX12_serves_88 : decode cX12_serves 88 = .ok (.invokestatic 407, 3) := by decide +kernel
theorem dX12_serves_91 : decode cX12_serves 91 = .ok (.if_icmp .ge 6, 3) := by decide +kernel
theorem dX12_serves_94 : decode cX12_serves 94 = .ok (.iload 4, 2) := by decide +kernel
theorem dX12_serves_96 : decode cX12_serves 96 = .ok (.istore_n 3, 1) := by decide +kernel
theorem dX12_serves_97 : decode cX12_serves 97 = .ok (.iinc 4 1, 3) := by decide +kernel
theorem dX12_serves_100 : decode cX12_serves 100 = .ok (.goto (-56), 3) := by decide +kernel
theorem dX12_serves_103 : decode cX12_serves 103 = .ok (.iload_n 3, 1) := by decide +kernel
theorem dX12_serves_104 : decode cX12_serves 104 = .ok (.ireturn, 1) := by decide +kernel
theorem dX12_lookers_0 : decode cX12_lookers 0 = .ok (.aload_n 0, 1) := by decide +kernel
theorem dX12_lookers_1 : decode cX12_lookers 1 = .ok (.iconst 0, 1) := by decide +kernel
theorem dX12_lookers_2 : decode cX12_lookers 2 = .ok (.putfield 3, 3) := by decide +kernel
theorem dX12_lookers_5 : decode cX12_lookers 5 = .ok (.aload_n 0, 1) := by decide +kernel
theorem dX12_lookers_6 : decode cX12_lookers 6 = .ok (.iload_n 1, 1) := by decide +kernel
theorem dX12_lookers_7 : decode cX12_lookers 7 = .ok (.iconst 0, 1) := by decide +kernel
theorem dX12_lookers_8 : decode cX12_lookers 8 = .ok (.bipush 99, 2) := by decide +kernel
theorem dX12_lookers_10 : decode cX12_lookers 10 = .ok (.invokestatic 368, 3) := by decide +kernel
theorem dX12_lookers_13 : decode cX12_lookers 13 = .ok (.ifCond .eq 26, 3) := by decide +kernel
theorem dX12_lookers_16 : decode cX12_lookers 16 = .ok (.iload_n 2, 1) := by decide +kernel
theorem dX12_lookers_17 : decode cX12_lookers 17 = .ok (.iconst 0, 1) := by decide +kernel
theorem dX12_lookers_18 : decode cX12_lookers 18 = .ok (.bipush 99, 2) := by decide +kernel
theorem dX12_lookers_20 : decode cX12_lookers 20 = .ok (.invokestatic 368, 3) := by decide +kernel
theorem dX12_lookers_23 : decode cX12_lookers 23 = .ok (.ifCond .eq 16, 3) := by decide +kernel
theorem dX12_lookers_26 : decode cX12_lookers 26 = .ok (.iload_n 3, 1) := by decide +kernel
theorem dX12_lookers_27 : decode cX12_lookers 27 = .ok (.iconst 0, 1) := by decide +kernel
theorem dX12_lookers_28 : decode cX12_lookers 28 = .ok (.iconst 2, 1) := by decide +kernel
theorem dX12_lookers_29 : decode cX12_lookers 29 = .ok (.invokestatic 368, 3) := by decide +kernel
theorem dX12_lookers_32 : decode cX12_lookers 32 = .ok (.ifCond .eq 7, 3) := by decide +kernel
theorem dX12_lookers_35 : decode cX12_lookers 35 = .ok (.iconst 1, 1) := by decide +kernel
theorem dX12_lookers_36 : decode cX12_lookers 36 = .ok (.goto 4, 3) := by decide +kernel
theorem dX12_lookers_39 : decode cX12_lookers 39 = .ok (.iconst 0, 1) := by decide +kernel
theorem dX12_lookers_40 : decode cX12_lookers 40 = .ok (.iconst 1, 1) := by decide +kernel
theorem dX12_lookers_41 : decode cX12_lookers 41 = .ok (.iconst 1, 1) := by decide +kernel
theorem dX12_lookers_42 : decode cX12_lookers 42 = .ok (.invokevirtual 190, 3) := by decide +kernel
theorem dX12_lookers_45 : decode cX12_lookers 45 = .ok (.ifCond .ne 5, 3) := by decide +kernel
theorem dX12_lookers_48 : decode cX12_lookers 48 = .ok (.iconst 0, 1) := by decide +kernel
theorem dX12_lookers_49 : decode cX12_lookers 49 = .ok (.ireturn, 1) := by decide +kernel
theorem dX12_lookers_50 : decode cX12_lookers 50 = .ok (.iconst 0, 1) := by decide +kernel
theorem dX12_lookers_51 : decode cX12_lookers 51 = .ok (.istore 4, 2) := by decide +kernel
theorem dX12_lookers_53 : decode cX12_lookers 53 = .ok (.iconst (-1), 1) := by decide +kernel
theorem dX12_lookers_54 : decode cX12_lookers 54 = .ok (.istore 5, 2) := by decide +kernel
theorem dX12_lookers_56 : decode cX12_lookers 56 = .ok (.iconst 0, 1) := by decide +kernel
theorem dX12_lookers_57 : decode cX12_lookers 57 = .ok (.istore 6, 2) := by decide +kernel
theorem dX12_lookers_59 : decode cX12_lookers 59 = .ok (.iload 6, 2) := by decide +kernel
theorem dX12_lookers_61 : decode cX12_lookers 61 = .ok (.iconst 4, 1) := by decide +kernel
theorem dX12_lookers_62 : decode cX12_lookers 62 = .ok (.if_icmp .ge 94, 3) := by decide +kernel
theorem dX12_lookers_65 : decode cX12_lookers 65 = .ok (.iload 6, 2) := by decide +kernel
theorem dX12_lookers_67 : decode cX12_lookers 67 = .ok (.iconst 2, 1) := by decide +kernel
theorem dX12_lookers_68 : decode cX12_lookers 68 = .ok (.idiv, 1) := by decide +kernel
theorem dX12_lookers_69 : decode cX12_lookers 69 = .ok (.istore 7, 2) := by decide +kernel
theorem dX12_lookers_71 : decode cX12_lookers 71 = .ok (.iload 6, 2) := by decide +kernel
theorem dX12_lookers_73 : decode cX12_lookers 73 = .ok (.iconst 2, 1) := by decide +kernel
theorem dX12_lookers_74 : decode cX12_lookers 74 = .ok (.irem, 1) := by decide +kernel
theorem dX12_lookers_75 : decode cX12_lookers 75 = .ok (.istore 8, 2) := by decide +kernel
theorem dX12_lookers_77 : decode cX12_lookers 77 = .ok (.iconst 1, 1) := by decide +kernel
theorem dX12_lookers_78 : decode cX12_lookers 78 = .ok (.iload 7, 2) := by decide +kernel
theorem dX12_lookers_80 : decode cX12_lookers 80 = .ok (.isub, 1) := by decide +kernel
theorem dX12_lookers_81 : decode cX12_lookers 81 = .ok (.iload 8, 2) := by decide +kernel
theorem dX12_lookers_83 : decode cX12_lookers 83 = .ok (.iload_n 1, 1) := by decide +kernel
theorem dX12_lookers_84 : decode cX12_lookers 84 = .ok (.iload_n 2, 1) := by decide +kernel
theorem dX12_lookers_85 : decode cX12_lookers 85 = .ok (.invokestatic 435, 3) := by decide +kernel
theorem dX12_lookers_88 : decode cX12_lookers 88 = .ok (.iload 7, 2) := by decide +kernel
theorem dX12_lookers_90 : decode cX12_lookers 90 = .ok (.iload 8, 2) := by decide +kernel
theorem dX12_lookers_92 : decode cX12_lookers 92 = .ok (.iload_n 1, 1) := by decide +kernel
theorem dX12_lookers_93 : decode cX12_lookers 93 = .ok (.iload_n 2, 1) := by decide +kernel
theorem dX12_lookers_94 : decode cX12_lookers 94 = .ok (.invokestatic 435, 3) := by decide +kernel
theorem dX12_lookers_97 : decode cX12_lookers 97 = .ok (.if_icmp .gt 53, 3) := by decide +kernel
theorem dX12_lookers_100 : decode cX12_lookers 100 = .ok (.iconst 1, 1) := by decide +kernel
theorem dX12_lookers_101 : decode cX12_lookers 101 = .ok (.iload 8, 2) := by decide +kernel
theorem dX12_lookers_103 : decode cX12_lookers 103 = .ok (.isub, 1) := by decide +kernel
theorem dX12_lookers_104 : decode cX12_lookers 104 = .ok (.iload 7, 2) := by decide +kernel
theorem dX12_lookers_106 : decode cX12_lookers 106 = .ok (.iload_n 1, 1) := by decide +kernel
theorem dX12_lookers_107 : decode cX12_lookers 107 = .ok (.iload_n 2, 1) := by decide +kernel
theorem dX12_lookers_108 : decode cX12_lookers 108 = .ok (.invokestatic 435, 3) := by decide +kernel
theorem dX12_lookers_111 : decode cX12_lookers 111 = .ok (.iload 8, 2) := by decide +kernel
theorem dX12_lookers_113 : decode cX12_lookers 113 = .ok (.iload 7, 2) := by decide +kernel
theorem dX12_lookers_115 : decode cX12_lookers 115 = .ok (.iload_n 1, 1) := by decide +kernel
theorem dX12_lookers_116 : decode cX12_lookers 116 = .ok (.iload_n 2, 1) := by decide +kernel
theorem dX12_lookers_117 : decode cX12_lookers 117 = .ok (.invokestatic 435, 3) := by decide +kernel
theorem dX12_lookers_120 : decode cX12_lookers 120 = .ok (.if_icmp .le 6, 3) := by decide +kernel
theorem dX12_lookers_123 : decode cX12_lookers 123 = .ok (.goto 27, 3) := by decide +kernel
theorem dX12_lookers_126 : decode cX12_lookers 126 = .ok (.iinc 4 1, 3) := by decide +kernel
theorem dX12_lookers_129 : decode cX12_lookers 129 = .ok (.iload 5, 2) := by decide +kernel
theorem dX12_lookers_131 : decode cX12_lookers 131 = .ok (.iconst (-1), 1) := by decide +kernel
theorem dX12_lookers_132 : decode cX12_lookers 132 = .ok (.if_icmp .ne 14, 3) := by decide +kernel
theorem dX12_lookers_135 : decode cX12_lookers 135 = .ok (.bipush 10, 2) := by decide +kernel
theorem dX12_lookers_137 : decode cX12_lookers 137 = .ok (.iload 7, 2) := by decide +kernel
theorem dX12_lookers_139 : decode cX12_lookers 139 = .ok (.imul, 1) := by decide +kernel
theorem dX12_lookers_140 : decode cX12_lookers 140 = .ok (.iload 8, 2) := by decide +kernel
theorem dX12_lookers_142 : decode cX12_lookers 142 = .ok (.iadd, 1) := by decide +kernel
theorem dX12_lookers_143 : decode cX12_lookers 143 = .ok (.goto 5, 3) := by decide +kernel
theorem dX12_lookers_146 : decode cX12_lookers 146 = .ok (.iload 5, 2) := by decide +kernel
theorem dX12_lookers_148 : decode cX12_lookers 148 = .ok (.istore 5, 2) := by decide +kernel
theorem dX12_lookers_150 : decode cX12_lookers 150 = .ok (.iinc 6 1, 3) := by decide +kernel
theorem dX12_lookers_153 : decode cX12_lookers 153 = .ok (.goto (-94), 3) := by decide +kernel
theorem dX12_lookers_156 : decode cX12_lookers 156 = .ok (.iload_n 3, 1) := by decide +kernel
theorem dX12_lookers_157 : decode cX12_lookers 157 = .ok (.ifCond .ne 8, 3) := by decide +kernel
theorem dX12_lookers_160 : decode cX12_lookers 160 = .ok (.iload 4, 2) := by decide +kernel
theorem dX12_lookers_162 : decode cX12_lookers 162 = .ok (.goto 54, 3) := by decide +kernel
theorem dX12_lookers_165 : decode cX12_lookers 165 = .ok (.iload_n 3, 1) := by decide +kernel
theorem dX12_lookers_166 : decode cX12_lookers 166 = .ok (.iconst 1, 1) := by decide +kernel
theorem dX12_lookers_167 : decode cX12_lookers 167 = .ok (.if_icmp .ne 8, 3) := by decide +kernel
theorem dX12_lookers_170 : decode cX12_lookers 170 = .ok (.iload 5, 2) := by decide +kernel
theorem dX12_lookers_172 : decode cX12_lookers 172 = .ok (.goto 44, 3) := by decide +kernel
theorem dX12_lookers_175 : decode cX12_lookers 175 = .ok (.iload 5, 2) := by decide +kernel
theorem dX12_lookers_177 : decode cX12_lookers 177 = .ok (.iconst (-1), 1) := by decide +kernel
theorem dX12_lookers_178 : decode cX12_lookers 178 = .ok (.if_icmp .ne 7, 3) := by decide +kernel
theorem dX12_lookers_181 : decode cX12_lookers 181 = .ok (.iconst 0, 1) := by decide +kernel
theorem dX12_lookers_182 : decode cX12_lookers 182 = .ok (.goto 34, 3) := by decide +kernel
theorem dX12_lookers_185 : decode cX12_lookers 185 = .ok (.iload 5, 2) := by decide +kernel
theorem dX12_lookers_187 : decode cX12_lookers 187 = .ok (.bipush 10, 2) := by decide +kernel
theorem dX12_lookers_189 : decode cX12_lookers 189 = .ok (.idiv, 1) := by decide +kernel
theorem dX12_lookers_190 : decode cX12_lookers 190 = .ok (.iload 5, 2) := by decide +kernel
theorem dX12_lookers_192 : decode cX12_lookers 192 = .ok (.bipush 10, 2) := by decide +kernel
theorem dX12_lookers_194 : decode cX12_lookers 194 = .ok (.irem, 1) := by decide +kernel
theorem dX12_lookers_195 : decode cX12_lookers 195 = .ok (.iload_n 1, 1) := by decide +kernel
theorem dX12_lookers_196 : decode cX12_lookers 196 = .ok (.iload_n 2, 1) := by decide +kernel
theorem dX12_lookers_197 : decode cX12_lookers 197 = .ok (.invokestatic 435, 3) := by decide +kernel
theorem dX12_lookers_200 : decode cX12_lookers 200 = .ok (.iload 5, 2) := by decide +kernel
theorem dX12_lookers_202 : decode cX12_lookers 202 = .ok (.bipush 10, 2) := by decide +kernel
theorem dX12_lookers_204 : decode cX12_lookers 204 = .ok (.irem, 1) := by decide +kernel
theorem dX12_lookers_205 : decode cX12_lookers 205 = .ok (.iload 5, 2) := by decide +kernel
theorem dX12_lookers_207 : decode cX12_lookers 207 = .ok (.bipush 10, 2) := by decide +kernel
theorem dX12_lookers_209 : decode cX12_lookers 209 = .ok (.idiv, 1) := by decide +kernel
theorem dX12_lookers_210 : decode cX12_lookers 210 = .ok (.iload_n 1, 1) := by decide +kernel
theorem dX12_lookers_211 : decode cX12_lookers 211 = .ok (.iload_n 2, 1) := by decide +kernel
theorem dX12_lookers_212 : decode cX12_lookers 212 = .ok (.invokestatic 435, 3) := by decide +kernel
theorem dX12_lookers_215 : decode cX12_lookers 215 = .ok (.iadd, 1) := by decide +kernel
theorem dX12_lookers_216 : decode cX12_lookers 216 = .ok (.ireturn, 1) := by decide +kernel
theorem dX12_ahead_0 : decode cX12_ahead 0 = .ok (.aload_n 0, 1) := by decide +kernel
theorem dX12_ahead_1 : decode cX12_ahead 1 = .ok (.iconst 0, 1) := by decide +kernel
theorem dX12_ahead_2 : decode cX12_ahead 2 = .ok (.putfield 3, 3) := by decide +kernel
theorem dX12_ahead_5 : decode cX12_ahead 5 = .ok (.aload_n 0, 1) := by decide +kernel
theorem dX12_ahead_6 : decode cX12_ahead 6 = .ok (.iload_n 1, 1) := by decide +kernel
theorem dX12_ahead_7 : decode cX12_ahead 7 = .ok (.iconst 0, 1) := by decide +kernel
theorem dX12_ahead_8 : decode cX12_ahead 8 = .ok (.bipush 99, 2) := by decide +kernel
theorem dX12_ahead_10 : decode cX12_ahead 10 = .ok (.invokestatic 368, 3) := by decide +kernel
theorem dX12_ahead_13 : decode cX12_ahead 13 = .ok (.ifCond .eq 16, 3) := by decide +kernel
theorem dX12_ahead_16 : decode cX12_ahead 16 = .ok (.iload_n 2, 1) := by decide +kernel
theorem dX12_ahead_17 : decode cX12_ahead 17 = .ok (.iconst 0, 1) := by decide +kernel
theorem dX12_ahead_18 : decode cX12_ahead 18 = .ok (.iconst 1, 1) := by decide +kernel
theorem dX12_ahead_19 : decode cX12_ahead 19 = .ok (.invokestatic 368, 3) := by decide +kernel
theorem dX12_ahead_22 : decode cX12_ahead 22 = .ok (.ifCond .eq 7, 3) := by decide +kernel
theorem dX12_ahead_25 : decode cX12_ahead 25 = .ok (.iconst 1, 1) := by decide +kernel
theorem dX12_ahead_26 : decode cX12_ahead 26 = .ok (.goto 4, 3) := by decide +kernel
theorem dX12_ahead_29 : decode cX12_ahead 29 = .ok (.iconst 0, 1) := by decide +kernel
theorem dX12_ahead_30 : decode cX12_ahead 30 = .ok (.iconst 1, 1) := by decide +kernel
theorem dX12_ahead_31 : decode cX12_ahead 31 = .ok (.iconst 1, 1) := by decide +kernel
theorem dX12_ahead_32 : decode cX12_ahead 32 = .ok (.invokevirtual 190, 3) := by decide +kernel
theorem dX12_ahead_35 : decode cX12_ahead 35 = .ok (.ifCond .ne 5, 3) := by decide +kernel
theorem dX12_ahead_38 : decode cX12_ahead 38 = .ok (.iconst 0, 1) := by decide +kernel
theorem dX12_ahead_39 : decode cX12_ahead 39 = .ok (.ireturn, 1) := by decide +kernel
theorem dX12_ahead_40 : decode cX12_ahead 40 = .ok (.aload_n 0, 1) := by decide +kernel
theorem dX12_ahead_41 : decode cX12_ahead 41 = .ok (.invokevirtual 301, 3) := by decide +kernel
theorem dX12_ahead_44 : decode cX12_ahead 44 = .ok (.iconst 0, 1) := by decide +kernel
theorem dX12_ahead_45 : decode cX12_ahead 45 = .ok (.istore_n 3, 1) := by decide +kernel
theorem dX12_ahead_46 : decode cX12_ahead 46 = .ok (.iload_n 3, 1) := by decide +kernel
theorem dX12_ahead_47 : decode cX12_ahead 47 = .ok (.iload_n 1, 1) := by decide +kernel
theorem dX12_ahead_48 : decode cX12_ahead 48 = .ok (.if_icmp .ge 13, 3) := by decide +kernel
theorem dX12_ahead_51 : decode cX12_ahead 51 = .ok (.aload_n 0, 1) := by decide +kernel
theorem dX12_ahead_52 : decode cX12_ahead 52 = .ok (.invokevirtual 359, 3) := by decide +kernel
theorem dX12_ahead_55 : decode cX12_ahead 55 = .ok (.iinc 3 1, 3) := by decide +kernel
theorem dX12_ahead_58 : decode cX12_ahead 58 = .ok (.goto (-12), 3) := by decide +kernel
theorem dX12_ahead_61 : decode cX12_ahead 61 = .ok (.iload_n 2, 1) := by decide +kernel
theorem dX12_ahead_62 : decode cX12_ahead 62 = .ok (.ifCond .ne 14, 3) := by decide +kernel
theorem dX12_ahead_65 : decode cX12_ahead 65 = .ok (.aload_n 0, 1) := by decide +kernel
theorem dX12_ahead_66 : decode cX12_ahead 66 = .ok (.bipush 42, 2) := by decide +kernel
theorem dX12_ahead_68 : decode cX12_ahead 68 = .ok (.bipush 42, 2) := by decide +kernel
theorem dX12_ahead_70 : decode cX12_ahead 70 = .ok (.invokevirtual 322, 3) := by decide +kernel
theorem dX12_ahead_73 : decode cX12_ahead 73 = .ok (.goto 7, 3) := by decide +kernel
theorem dX12_ahead_76 : decode cX12_ahead 76 = .ok (.aload_n 0, 1) := by decide +kernel
theorem dX12_ahead_77 : decode cX12_ahead 77 = .ok (.invokevirtual 374, 3) := by decide +kernel
theorem dX12_ahead_80 : decode cX12_ahead 80 = .ok (.ireturn, 1) := by decide +kernel
theorem dX12_look_0 : decode cX12_look 0 = .ok (.aload_n 0, 1) := by decide +kernel
theorem dX12_look_1 : decode cX12_look 1 = .ok (.iconst 0, 1) := by decide +kernel
theorem dX12_look_2 : decode cX12_look 2 = .ok (.putfield 3, 3) := by decide +kernel
theorem dX12_look_5 : decode cX12_look 5 = .ok (.aload_n 0, 1) := by decide +kernel
theorem dX12_look_6 : decode cX12_look 6 = .ok (.iload_n 1, 1) := by decide +kernel
theorem dX12_look_7 : decode cX12_look 7 = .ok (.iconst 0, 1) := by decide +kernel
theorem dX12_look_8 : decode cX12_look 8 = .ok (.iconst 1, 1) := by decide +kernel
theorem dX12_look_9 : decode cX12_look 9 = .ok (.invokestatic 368, 3) := by decide +kernel
theorem dX12_look_12 : decode cX12_look 12 = .ok (.iconst 1, 1) := by decide +kernel
theorem dX12_look_13 : decode cX12_look 13 = .ok (.iconst 1, 1) := by decide +kernel
theorem dX12_look_14 : decode cX12_look 14 = .ok (.invokevirtual 190, 3) := by decide +kernel
theorem dX12_look_17 : decode cX12_look 17 = .ok (.ifCond .ne 5, 3) := by decide +kernel
theorem dX12_look_20 : decode cX12_look 20 = .ok (.iconst 0, 1) := by decide +kernel
theorem dX12_look_21 : decode cX12_look 21 = .ok (.ireturn, 1) := by decide +kernel
theorem dX12_look_22 : decode cX12_look 22 = .ok (.aload_n 0, 1) := by decide +kernel
theorem dX12_look_23 : decode cX12_look 23 = .ok (.invokevirtual 412, 3) := by decide +kernel
theorem dX12_look_26 : decode cX12_look 26 = .ok (.iconst 0, 1) := by decide +kernel
theorem dX12_look_27 : decode cX12_look 27 = .ok (.istore_n 2, 1) := by decide +kernel
theorem dX12_look_28 : decode cX12_look 28 = .ok (.iload_n 2, 1) := by decide +kernel
theorem dX12_look_29 : decode cX12_look 29 = .ok (.aload_n 0, 1) := by decide +kernel
theorem dX12_look_30 : decode cX12_look 30 = .ok (.getfield 409, 3) := by decide +kernel
theorem dX12_look_33 : decode cX12_look 33 = .ok (.if_icmp .ge 62, 3) := by decide +kernel
theorem dX12_look_36 : decode cX12_look 36 = .ok (.aload_n 0, 1) := by decide +kernel
theorem dX12_look_37 : decode cX12_look 37 = .ok (.invokevirtual 301, 3) := by decide +kernel
theorem dX12_look_40 : decode cX12_look 40 = .ok (.aload_n 0, 1) := by decide +kernel
theorem dX12_look_41 : decode cX12_look 41 = .ok (.aload_n 0, 1) := by decide +kernel
theorem dX12_look_42 : decode cX12_look 42 = .ok (.getfield 77, 3) := by decide +kernel
theorem dX12_look_45 : decode cX12_look 45 = .ok (.iload_n 2, 1) := by decide +kernel
theorem dX12_look_46 : decode cX12_look 46 = .ok (.iaload, 1) := by decide +kernel
theorem dX12_look_47 : decode cX12_look 47 = .ok (.aload_n 0, 1) := by decide +kernel
theorem dX12_look_48 : decode cX12_look 48 = .ok (.getfield 80, 3) := by decide +kernel
theorem dX12_look_51 : decode cX12_look 51 = .ok (.iload_n 2, 1) := by decide +kernel
theorem dX12_look_52 : decode cX12_look 52 = .ok (.iaload, 1) := by decide +kernel
theorem dX12_look_53 : decode cX12_look 53 = .ok (.invokevirtual 345, 3) := by decide +kernel
theorem dX12_look_56 : decode cX12_look 56 = .ok (.pop, 1) := by decide +kernel
theorem dX12_look_57 : decode cX12_look 57 = .ok (.iconst 0, 1) := by decide +kernel
theorem dX12_look_58 : decode cX12_look 58 = .ok (.istore_n 3, 1) := by decide +kernel
theorem dX12_look_59 : decode cX12_look 59 = .ok (.iload_n 3, 1) := by decide +kernel
theorem dX12_look_60 : decode cX12_look 60 = .ok (.aload_n 0, 1) := by decide +kernel
theorem dX12_look_61 : decode cX12_look 61 = .ok (.getfield 156, 3) := by decide +kernel
theorem dX12_look_64 : decode cX12_look 64 = .ok (.if_icmp .ge 25, 3) := by decide +kernel
theorem dX12_look_67 : decode cX12_look 67 = .ok (.aload_n 0, 1) := by decide +kernel
theorem dX12_look_68 : decode cX12_look 68 = .ok (.getfield 83, 3) := by decide +kernel
theorem dX12_look_71 : decode cX12_look 71 = .ok (.bipush 48, 2) := by decide +kernel
theorem dX12_look_73 : decode cX12_look 73 = .ok (.iload_n 3, 1) := by decide +kernel
theorem dX12_look_74 : decode cX12_look 74 = .ok (.imul, 1) := by decide +kernel
theorem dX12_look_75 : decode cX12_look 75 = .ok (.iload_n 2, 1) := by decide +kernel
theorem dX12_look_76 : decode cX12_look 76 = .ok (.iadd, 1) := by decide +kernel
theorem dX12_look_77 : decode cX12_look 77 = .ok (.aload_n 0, 1) := by decide +kernel
theorem dX12_look_78 : decode cX12_look 78 = .ok (.iload_n 3, 1) := by decide +kernel
theorem dX12_look_79 : decode cX12_look 79 = .ok (.invokevirtual 392, 3) := by decide +kernel
theorem dX12_look_82 : decode cX12_look 82 = .ok (.iastore, 1) := by decide +kernel
theorem dX12_look_83 : decode cX12_look 83 = .ok (.iinc 3 1, 3) := by decide +kernel
theorem dX12_look_86 : decode cX12_look 86 = .ok (.goto (-27), 3) := by decide +kernel
theorem dX12_look_89 : decode cX12_look 89 = .ok (.iinc 2 1, 3) := by decide +kernel
theorem dX12_look_92 : decode cX12_look 92 = .ok (.goto (-64), 3) := by decide +kernel
theorem dX12_look_95 : decode cX12_look 95 = .ok (.iconst (-1), 1) := by decide +kernel
theorem dX12_look_96 : decode cX12_look 96 = .ok (.istore_n 2, 1) := by decide +kernel
theorem dX12_look_97 : decode cX12_look 97 = .ok (.iconst (-1), 1) := by decide +kernel
theorem dX12_look_98 : decode cX12_look 98 = .ok (.istore_n 3, 1) := by decide +kernel
theorem dX12_look_99 : decode cX12_look 99 = .ok (.iconst 0, 1) := by decide +kernel
theorem dX12_look_100 : decode cX12_look 100 = .ok (.istore 4, 2) := by decide +kernel
theorem dX12_look_102 : decode cX12_look 102 = .ok (.iload 4, 2) := by decide +kernel
theorem dX12_look_104 : decode cX12_look 104 = .ok (.aload_n 0, 1) := by decide +kernel
theorem dX12_look_105 : decode cX12_look 105 = .ok (.getfield 156, 3) := by decide +kernel
theorem dX12_look_108 : decode cX12_look 108 = .ok (.if_icmp .ge 56, 3) := by decide +kernel
theorem dX12_look_111 : decode cX12_look 111 = .ok (.aload_n 0, 1) := by decide +kernel
theorem dX12_look_112 : decode cX12_look 112 = .ok (.iload 4, 2) := by decide +kernel
theorem dX12_look_114 : decode cX12_look 114 = .ok (.invokevirtual 415, 3) := by decide +kernel
theorem dX12_look_117 : decode cX12_look 117 = .ok (.ifCond .eq 7, 3) := by decide +kernel
theorem dX12_look_120 : decode cX12_look 120 = .ok (.iconst (-1), 1) := by decide +kernel
theorem dX12_look_121 : decode cX12_look 121 = .ok (.goto 9, 3) := by decide +kernel
theorem dX12_look_124 : decode cX12_look 124 = .ok (.aload_n 0, 1) := by decide +kernel
theorem dX12_look_125 : decode cX12_look 125 = .ok (.iload 4, 2) := by decide +kernel
theorem dX12_look_127 : decode cX12_look 127 = .ok (.invokevirtual 418, 3) := by decide +kernel
theorem dX12_look_130 : decode cX12_look 130 = .ok (.istore 5, 2) := by decide +kernel
theorem dX12_look_132 : decode cX12_look 132 = .ok (.iload 5, 2) := by decide +kernel
theorem dX12_look_134 : decode cX12_look 134 = .ok (.iconst (-1), 1) := by decide +kernel
theorem dX12_look_135 : decode cX12_look 135 = .ok (.if_icmp .eq 23, 3) := by decide +kernel
theorem dX12_look_138 : decode cX12_look 138 = .ok (.iload_n 2, 1) := by decide +kernel
theorem dX12_look_139 : decode cX12_look 139 = .ok (.iconst (-1), 1) := by decide +kernel
theorem dX12_look_140 : decode cX12_look 140 = .ok (.if_icmp .eq 12, 3) := by decide +kernel
theorem dX12_look_143 : decode cX12_look 143 = .ok (.iload 5, 2) := by decide +kernel
theorem dX12_look_145 : decode cX12_look 145 = .ok (.iload_n 3, 1) := by decide +kernel
theorem dX12_look_146 : decode cX12_look 146 = .ok (.if_icmp .lt 6, 3) := by decide +kernel
theorem dX12_look_149 : decode cX12_look 149 = .ok (.goto 9, 3) := by decide +kernel
theorem dX12_look_152 : decode cX12_look 152 = .ok (.iload 4, 2) := by decide +kernel
theorem dX12_look_154 : decode cX12_look 154 = .ok (.istore_n 2, 1) := by decide +kernel
theorem dX12_look_155 : decode cX12_look 155 = .ok (.iload 5, 2) := by decide +kernel
theorem dX12_look_157 : decode cX12_look 157 = .ok (.istore_n 3, 1) := by decide +kernel
theorem dX12_look_158 : decode cX12_look 158 = .ok (.iinc 4 1, 3) := by decide +kernel
theorem dX12_look_161 : decode cX12_look 161 = .ok (.goto (-59), 3) := by decide +kernel
theorem dX12_look_164 : decode cX12_look 164 = .ok (.iload_n 1, 1) := by decide +kernel
theorem dX12_look_165 : decode cX12_look 165 = .ok (.ifCond .ne 7, 3) := by decide +kernel
theorem dX12_look_168 : decode cX12_look 168 = .ok (.iload_n 2, 1) := by decide +kernel
theorem dX12_look_169 : decode cX12_look 169 = .ok (.goto 4, 3) := by decide +kernel
theorem dX12_look_172 : decode cX12_look 172 = .ok (.iload_n 3, 1) := by decide +kernel
theorem dX12_look_173 : decode cX12_look 173 = .ok (.ireturn, 1) := by decide +kernel
theorem dX12_count_0 : decode cX12_count 0 = .ok (.aload_n 0, 1) := by decide +kernel
theorem dX12_count_1 : decode cX12_count 1 = .ok (.iconst 0, 1) := by decide +kernel
theorem dX12_count_2 : decode cX12_count 2 = .ok (.putfield 3, 3) := by decide +kernel
theorem dX12_count_5 : decode cX12_count 5 = .ok (.iload_n 1, 1) := by decide +kernel
theorem dX12_count_6 : decode cX12_count 6 = .ok (.ifCond .ne 10, 3) := by decide +kernel
theorem dX12_count_9 : decode cX12_count 9 = .ok (.aload_n 0, 1) := by decide +kernel
theorem dX12_count_10 : decode cX12_count 10 = .ok (.getfield 172, 3) := by decide +kernel
theorem dX12_count_13 : decode cX12_count 13 = .ok (.goto 28, 3) := by decide +kernel
theorem dX12_count_16 : decode cX12_count 16 = .ok (.iload_n 1, 1) := by decide +kernel
theorem dX12_count_17 : decode cX12_count 17 = .ok (.iconst 1, 1) := by decide +kernel
theorem dX12_count_18 : decode cX12_count 18 = .ok (.if_icmp .ne 10, 3) := by decide +kernel
theorem dX12_count_21 : decode cX12_count 21 = .ok (.aload_n 0, 1) := by decide +kernel
theorem dX12_count_22 : decode cX12_count 22 = .ok (.getfield 95, 3) := by decide +kernel
theorem dX12_count_25 : decode cX12_count 25 = .ok (.goto 16, 3) := by decide +kernel
theorem dX12_count_28 : decode cX12_count 28 = .ok (.iload_n 1, 1) := by decide +kernel
theorem dX12_count_29 : decode cX12_count 29 = .ok (.iconst 2, 1) := by decide +kernel
theorem dX12_count_30 : decode cX12_count 30 = .ok (.if_icmp .ne 10, 3) := by decide +kernel
theorem dX12_count_33 : decode cX12_count 33 = .ok (.aload_n 0, 1) := by decide +kernel
theorem dX12_count_34 : decode cX12_count 34 = .ok (.getfield 169, 3) := by decide +kernel
theorem dX12_count_37 : decode cX12_count 37 = .ok (.goto 4, 3) := by decide +kernel
theorem dX12_count_40 : decode cX12_count 40 = .ok (.iconst (-1), 1) := by decide +kernel
theorem dX12_count_41 : decode cX12_count 41 = .ok (.ireturn, 1) := by decide +kernel
theorem dX12_allOrders_0 : decode cX12_allOrders 0 = .ok (.iconst 1, 1) := by decide +kernel
theorem dX12_allOrders_1 : decode cX12_allOrders 1 = .ok (.istore_n 1, 1) := by decide +kernel
theorem dX12_allOrders_2 : decode cX12_allOrders 2 = .ok (.iconst 2, 1) := by decide +kernel
theorem dX12_allOrders_3 : decode cX12_allOrders 3 = .ok (.istore_n 2, 1) := by decide +kernel
theorem dX12_allOrders_4 : decode cX12_allOrders 4 = .ok (.iload_n 2, 1) := by decide +kernel
theorem dX12_allOrders_5 : decode cX12_allOrders 5 = .ok (.iload_n 0, 1) := by decide +kernel
theorem dX12_allOrders_6 : decode cX12_allOrders 6 = .ok (.if_icmp .gt 13, 3) := by decide +kernel
theorem dX12_allOrders_9 : decode cX12_allOrders 9 = .ok (.iload_n 1, 1) := by decide +kernel
theorem dX12_allOrders_10 : decode cX12_allOrders 10 = .ok (.iload_n 2, 1) := by decide +kernel
theorem dX12_allOrders_11 : decode cX12_allOrders 11 = .ok (.imul, 1) := by decide +kernel
theorem dX12_allOrders_12 : decode cX12_allOrders 12 = .ok (.istore_n 1, 1) := by decide +kernel
theorem dX12_allOrders_13 : decode cX12_allOrders 13 = .ok (.iinc 2 1, 3) := by decide +kernel
theorem dX12_allOrders_16 : decode cX12_allOrders 16 = .ok (.goto (-12), 3) := by decide +kernel
theorem dX12_allOrders_19 : decode cX12_allOrders 19 = .ok (.iload_n 1, 1) := by decide +kernel
theorem dX12_allOrders_20 : decode cX12_allOrders 20 = .ok (.ireturn, 1) := by decide +kernel
theorem dX12_lit_0 : decode cX12_lit 0 = .ok (.aload_n 0, 1) := by decide +kernel
theorem dX12_lit_1 : decode cX12_lit 1 = .ok (.iconst 0, 1) := by decide +kernel
theorem dX12_lit_2 : decode cX12_lit 2 = .ok (.putfield 3, 3) := by decide +kernel
theorem dX12_lit_5 : decode cX12_lit 5 = .ok (.aload_n 0, 1) := by decide +kernel
theorem dX12_lit_6 : decode cX12_lit 6 = .ok (.invokevirtual 301, 3) := by decide +kernel
theorem dX12_lit_9 : decode cX12_lit 9 = .ok (.iconst 0, 1) := by decide +kernel
theorem dX12_lit_10 : decode cX12_lit 10 = .ok (.istore_n 1, 1) := by decide +kernel
theorem dX12_lit_11 : decode cX12_lit 11 = .ok (.iconst 0, 1) := by decide +kernel
theorem dX12_lit_12 : decode cX12_lit 12 = .ok (.istore_n 2, 1) := by decide +kernel
theorem dX12_lit_13 : decode cX12_lit 13 = .ok (.iload_n 2, 1) := by decide +kernel
theorem dX12_lit_14 : decode cX12_lit 14 = .ok (.aload_n 0, 1) := by decide +kernel
theorem dX12_lit_15 : decode cX12_lit 15 = .ok (.getfield 156, 3) := by decide +kernel
theorem dX12_lit_18 : decode cX12_lit 18 = .ok (.if_icmp .ge 25, 3) := by decide +kernel
theorem dX12_lit_21 : decode cX12_lit 21 = .ok (.iload_n 1, 1) := by decide +kernel
theorem dX12_lit_22 : decode cX12_lit 22 = .ok (.aload_n 0, 1) := by decide +kernel
theorem dX12_lit_23 : decode cX12_lit 23 = .ok (.iload_n 2, 1) := by decide +kernel
theorem dX12_lit_24 : decode cX12_lit 24 = .ok (.invokevirtual 392, 3) := by decide +kernel
theorem dX12_lit_27 : decode cX12_lit 27 = .ok (.ifCond .le 7, 3) := by decide +kernel
theorem dX12_lit_30 : decode cX12_lit 30 = .ok (.iconst 1, 1) := by decide +kernel
theorem dX12_lit_31 : decode cX12_lit 31 = .ok (.goto 4, 3) := by decide +kernel
theorem dX12_lit_34 : decode cX12_lit 34 = .ok (.iconst 0, 1) := by decide +kernel
theorem dX12_lit_35 : decode cX12_lit 35 = .ok (.iadd, 1) := by decide +kernel
theorem dX12_lit_36 : decode cX12_lit 36 = .ok (.istore_n 1, 1) := by decide +kernel
theorem dX12_lit_37 : decode cX12_lit 37 = .ok (.iinc 2 1, 3) := by decide +kernel
theorem dX12_lit_40 : decode cX12_lit 40 = .ok (.goto (-27), 3) := by decide +kernel
theorem dX12_lit_43 : decode cX12_lit 43 = .ok (.iload_n 1, 1) := by decide +kernel
theorem dX12_lit_44 : decode cX12_lit 44 = .ok (.ireturn, 1) := by decide +kernel
theorem dX12_isTerm_0 : decode cX12_isTerm 0 = .ok (.iload_n 0, 1) := by decide +kernel
theorem dX12_isTerm_1 : decode cX12_isTerm 1 = .ok (.ifCond .lt 24, 3) := by decide +kernel
theorem dX12_isTerm_4 : decode cX12_isTerm 4 = .ok (.iload_n 0, 1) := by decide +kernel
theorem dX12_isTerm_5 : decode cX12_isTerm 5 = .ok (.bipush 16, 2) := by decide +kernel
theorem dX12_isTerm_7 : decode cX12_isTerm 7 = .ok (.if_icmp .gt 18, 3) := by decide +kernel
theorem dX12_isTerm_10 : decode cX12_isTerm 10 = .ok (.iload_n 1, 1) := by decide +kernel
theorem dX12_isTerm_11 : decode cX12_isTerm 11 = .ok (.iconst 1, 1) := by decide +kernel
theorem dX12_isTerm_12 : decode cX12_isTerm 12 = .ok (.if_icmp .lt 13, 3) := by decide +kernel
theorem dX12_isTerm_15 : decode cX12_isTerm 15 = .ok (.iload_n 1, 1) := by decide +kernel
theorem dX12_isTerm_16 : decode cX12_isTerm 16 = .ok (.bipush 48, 2) := by decide +kernel
theorem dX12_isTerm_18 : decode cX12_isTerm 18 = .ok (.if_icmp .gt 7, 3) := by decide +kernel
theorem dX12_isTerm_21 : decode cX12_isTerm 21 = .ok (.iconst 1, 1) := by decide +kernel
theorem dX12_isTerm_22 : decode cX12_isTerm 22 = .ok (.goto 4, 3) := by decide +kernel
theorem dX12_isTerm_25 : decode cX12_isTerm 25 = .ok (.iconst 0, 1) := by decide +kernel
theorem dX12_isTerm_26 : decode cX12_isTerm 26 = .ok (.ireturn, 1) := by decide +kernel
theorem dX12_status_0 : decode cX12_status 0 = .ok (.aload_n 0, 1) := by decide +kernel
theorem dX12_status_1 : decode cX12_status 1 = .ok (.iconst 0, 1) := by decide +kernel
theorem dX12_status_2 : decode cX12_status 2 = .ok (.putfield 3, 3) := by decide +kernel
theorem dX12_status_5 : decode cX12_status 5 = .ok (.iload_n 1, 1) := by decide +kernel
theorem dX12_status_6 : decode cX12_status 6 = .ok (.iconst 0, 1) := by decide +kernel
theorem dX12_status_7 : decode cX12_status 7 = .ok (.iconst 1, 1) := by decide +kernel
theorem dX12_status_8 : decode cX12_status 8 = .ok (.invokestatic 368, 3) := by decide +kernel
theorem dX12_status_11 : decode cX12_status 11 = .ok (.ifCond .eq 12, 3) := by decide +kernel
theorem dX12_status_14 : decode cX12_status 14 = .ok (.aload_n 0, 1) := by decide +kernel
theorem dX12_status_15 : decode cX12_status 15 = .ok (.getfield 7, 3) := by decide +kernel
theorem dX12_status_18 : decode cX12_status 18 = .ok (.iload_n 1, 1) := by decide +kernel
theorem dX12_status_19 : decode cX12_status 19 = .ok (.iaload, 1) := by decide +kernel
theorem dX12_status_20 : decode cX12_status 20 = .ok (.goto 4, 3) := by decide +kernel
theorem dX12_status_23 : decode cX12_status 23 = .ok (.iconst (-1), 1) := by decide +kernel
theorem dX12_status_24 : decode cX12_status 24 = .ok (.ireturn, 1) := by decide +kernel
theorem dX12_told_0 : decode cX12_told 0 = .ok (.aload_n 0, 1) := by decide +kernel
theorem dX12_told_1 : decode cX12_told 1 = .ok (.iconst 0, 1) := by decide +kernel
theorem dX12_told_2 : decode cX12_told 2 = .ok (.putfield 3, 3) := by decide +kernel
theorem dX12_told_5 : decode cX12_told 5 = .ok (.aload_n 0, 1) := by decide +kernel
theorem dX12_told_6 : decode cX12_told 6 = .ok (.iload_n 1, 1) := by decide +kernel
theorem dX12_told_7 : decode cX12_told 7 = .ok (.iconst 0, 1) := by decide +kernel
theorem dX12_told_8 : decode cX12_told 8 = .ok (.bipush 11, 2) := by decide +kernel
theorem dX12_told_10 : decode cX12_told 10 = .ok (.invokestatic 368, 3) := by decide +kernel
theorem dX12_told_13 : decode cX12_told 13 = .ok (.iconst 1, 1) := by decide +kernel
theorem dX12_told_14 : decode cX12_told 14 = .ok (.iconst 1, 1) := by decide +kernel
theorem dX12_told_15 : decode cX12_told 15 = .ok (.invokevirtual 190, 3) := by decide +kernel
theorem dX12_told_18 : decode cX12_told 18 = .ok (.ifCond .ne 5, 3) := by decide +kernel
theorem dX12_told_21 : decode cX12_told 21 = .ok (.iconst 0, 1) := by decide +kernel
theorem dX12_told_22 : decode cX12_told 22 = .ok (.ireturn, 1) := by decide +kernel
theorem dX12_told_23 : decode cX12_told 23 = .ok (.aload_n 0, 1) := by decide +kernel
theorem dX12_told_24 : decode cX12_told 24 = .ok (.invokevirtual 301, 3) := by decide +kernel
theorem dX12_told_27 : decode cX12_told 27 = .ok (.iload_n 1, 1) := by decide +kernel
theorem dX12_told_28 : decode cX12_told 28 = .ok (.iconst 4, 1) := by decide +kernel
theorem dX12_told_29 : decode cX12_told 29 = .ok (.if_icmp .ge 47, 3) := by decide +kernel
theorem dX12_told_32 : decode cX12_told 32 = .ok (.iload_n 1, 1) := by decide +kernel
theorem dX12_told_33 : decode cX12_told 33 = .ok (.ifCond .ne 10, 3) := by decide +kernel
theorem dX12_told_36 : decode cX12_told 36 = .ok (.aload_n 0, 1) := by decide +kernel
theorem dX12_told_37 : decode cX12_told 37 = .ok (.getfield 150, 3) := by decide +kernel
theorem dX12_told_40 : decode cX12_told 40 = .ok (.goto 35, 3) := by decide +kernel
theorem dX12_told_43 : decode cX12_told 43 = .ok (.iload_n 1, 1) := by decide +kernel
theorem dX12_told_44 : decode cX12_told 44 = .ok (.iconst 1, 1) := by decide +kernel
theorem dX12_told_45 : decode cX12_told 45 = .ok (.if_icmp .ne 10, 3) := by decide +kernel
theorem dX12_told_48 : decode cX12_told 48 = .ok (.aload_n 0, 1) := by decide +kernel
theorem dX12_told_49 : decode cX12_told 49 = .ok (.getfield 153, 3) := by decide +kernel
theorem dX12_told_52 : decode cX12_told 52 = .ok (.goto 23, 3) := by decide +kernel
theorem dX12_told_55 : decode cX12_told 55 = .ok (.iload_n 1, 1) := by decide +kernel
theorem dX12_told_56 : decode cX12_told 56 = .ok (.iconst 2, 1) := by decide +kernel
theorem dX12_told_57 : decode cX12_told 57 = .ok (.if_icmp .ne 10, 3) := by decide +kernel
theorem dX12_told_60 : decode cX12_told 60 = .ok (.aload_n 0, 1) := by decide +kernel
theorem dX12_told_61 : decode cX12_told 61 = .ok (.getfield 156, 3) := by decide +kernel
theorem dX12_told_64 : decode cX12_told 64 = .ok (.goto 11, 3) := by decide +kernel
theorem dX12_told_67 : decode cX12_told 67 = .ok (.aload_n 0, 1) := by decide +kernel
theorem dX12_told_68 : decode cX12_told 68 = .ok (.getfield 62, 3) := by decide +kernel
theorem dX12_told_71 : decode cX12_told 71 = .ok (.sipush 174, 3) := by decide +kernel
theorem dX12_told_74 : decode cX12_told 74 = .ok (.iaload, 1) := by decide +kernel
theorem dX12_told_75 : decode cX12_told 75 = .ok (.ireturn, 1) := by decide +kernel
theorem dX12_told_76 : decode cX12_told 76 = .ok (.iload_n 1, 1) := by decide +kernel
theorem dX12_told_77 : decode cX12_told 77 = .ok (.bipush 6, 2) := by decide +kernel
theorem dX12_told_79 : decode cX12_told 79 = .ok (.if_icmp .ge 20, 3) := by decide +kernel
theorem dX12_told_82 : decode cX12_told 82 = .ok (.iload_n 1, 1) := by decide +kernel
theorem dX12_told_83 : decode cX12_told 83 = .ok (.iconst 4, 1) := by decide +kernel
theorem dX12_told_84 : decode cX12_told 84 = .ok (.if_icmp .ne 10, 3) := by decide +kernel
theorem dX12_told_87 : decode cX12_told 87 = .ok (.aload_n 0, 1) := by decide +kernel
theorem dX12_told_88 : decode cX12_told 88 = .ok (.invokevirtual 371, 3) := by decide +kernel
theorem dX12_told_91 : decode cX12_told 91 = .ok (.goto 7, 3) := by decide +kernel
theorem dX12_told_94 : decode cX12_told 94 = .ok (.aload_n 0, 1) := by decide +kernel
theorem dX12_told_95 : decode cX12_told 95 = .ok (.invokevirtual 374, 3) := by decide +kernel
theorem dX12_told_98 : decode cX12_told 98 = .ok (.ireturn, 1) := by decide +kernel
theorem dX12_told_99 : decode cX12_told 99 = .ok (.iload_n 1, 1) := by decide +kernel
theorem dX12_told_100 : decode cX12_told 100 = .ok (.bipush 9, 2) := by decide +kernel
theorem dX12_told_102 : decode cX12_told 102 = .ok (.if_icmp .ge 33, 3) := by decide +kernel
theorem dX12_told_105 : decode cX12_told 105 = .ok (.aload_n 0, 1) := by decide +kernel
theorem dX12_told_106 : decode cX12_told 106 = .ok (.iload_n 1, 1) := by decide +kernel
theorem dX12_told_107 : decode cX12_told 107 = .ok (.bipush 6, 2) := by decide +kernel
theorem dX12_told_109 : decode cX12_told 109 = .ok (.if_icmp .ne 7, 3) := by decide +kernel
theorem dX12_told_112 : decode cX12_told 112 = .ok (.iconst 0, 1) := by decide +kernel
theorem dX12_told_113 : decode cX12_told 113 = .ok (.goto 16, 3) := by decide +kernel
theorem dX12_told_116 : decode cX12_told 116 = .ok (.iload_n 1, 1) := by decide +kernel
theorem dX12_told_117 : decode cX12_told 117 = .ok (.bipush 7, 2) := by decide +kernel
theorem dX12_told_119 : decode cX12_told 119 = .ok (.if_icmp .ne 8, 3) := by decide +kernel
theorem dX12_told_122 : decode cX12_told 122 = .ok (.bipush 42, 2) := by decide +kernel
theorem dX12_told_124 : decode cX12_told 124 = .ok (.goto 5, 3) := by decide +kernel
theorem dX12_told_127 : decode cX12_told 127 = .ok (.bipush 126, 2) := by decide +kernel
theorem dX12_told_129 : decode cX12_told 129 = .ok (.bipush 42, 2) := by decide +kernel
theorem dX12_told_131 : decode cX12_told 131 = .ok (.invokevirtual 322, 3) := by decide +kernel
theorem dX12_told_134 : decode cX12_told 134 = .ok (.ireturn, 1) := by decide +kernel
theorem dX12_told_135 : decode cX12_told 135 = .ok (.iload_n 1, 1) := by decide +kernel
theorem dX12_told_136 : decode cX12_told 136 = .ok (.bipush 9, 2) := by decide +kernel
theorem dX12_told_138 : decode cX12_told 138 = .ok (.if_icmp .ne 10, 3) := by decide +kernel
theorem dX12_told_141 : decode cX12_told 141 = .ok (.aload_n 0, 1) := by decide +kernel
theorem dX12_told_142 : decode cX12_told 142 = .ok (.getfield 166, 3) := by decide +kernel
theorem dX12_told_145 : decode cX12_told 145 = .ok (.goto 25, 3) := by decide +kernel
theorem dX12_told_148 : decode cX12_told 148 = .ok (.iload_n 1, 1) := by decide +kernel
theorem dX12_told_149 : decode cX12_told 149 = .ok (.bipush 10, 2) := by decide +kernel
theorem dX12_told_151 : decode cX12_told 151 = .ok (.if_icmp .ne 10, 3) := by decide +kernel
theorem dX12_told_154 : decode cX12_told 154 = .ok (.aload_n 0, 1) := by decide +kernel
theorem dX12_told_155 : decode cX12_told 155 = .ok (.getfield 175, 3) := by decide +kernel
theorem dX12_told_158 : decode cX12_told 158 = .ok (.goto 12, 3) := by decide +kernel
theorem dX12_told_161 : decode cX12_told 161 = .ok (.aload_n 0, 1) := by decide +kernel
theorem dX12_told_162 : decode cX12_told 162 = .ok (.sipush 168, 3) := by decide +kernel
theorem dX12_told_165 : decode cX12_told 165 = .ok (.bipush 6, 2) := by decide +kernel
theorem dX12_told_167 : decode cX12_told 167 = .ok (.invokevirtual 322, 3) := by decide +kernel
theorem dX12_told_170 : decode cX12_told 170 = .ok (.ireturn, 1) := by decide +kernel
theorem dX12_power_0 : decode cX12_power 0 = .ok (.aload_n 0, 1) := by decide +kernel
theorem dX12_power_1 : decode cX12_power 1 = .ok (.iconst 0, 1) := by decide +kernel
theorem dX12_power_2 : decode cX12_power 2 = .ok (.putfield 3, 3) := by decide +kernel
theorem dX12_power_5 : decode cX12_power 5 = .ok (.aload_n 0, 1) := by decide +kernel
theorem dX12_power_6 : decode cX12_power 6 = .ok (.iload_n 1, 1) := by decide +kernel
theorem dX12_power_7 : decode cX12_power 7 = .ok (.iconst 1, 1) := by decide +kernel
theorem dX12_power_8 : decode cX12_power 8 = .ok (.invokevirtual 377, 3) := by decide +kernel
theorem dX12_power_11 : decode cX12_power 11 = .ok (.ifCond .eq 45, 3) := by decide +kernel
theorem dX12_power_14 : decode cX12_power 14 = .ok (.aload_n 0, 1) := by decide +kernel
theorem dX12_power_15 : decode cX12_power 15 = .ok (.iload_n 2, 1) := by decide +kernel
theorem dX12_power_16 : decode cX12_power 16 = .ok (.invokestatic 386, 3) := by decide +kernel
theorem dX12_power_19 : decode cX12_power 19 = .ok (.ifCond .eq 28, 3) := by decide +kernel
theorem dX12_power_22 : decode cX12_power 22 = .ok (.iload_n 3, 1) := by decide +kernel
theorem dX12_power_23 : decode cX12_power 23 = .ok (.iconst 1, 1) := by decide +kernel
theorem dX12_power_24 : decode cX12_power 24 = .ok (.sipush 2800, 3) := by decide +kernel
theorem dX12_power_27 : decode cX12_power 27 = .ok (.invokestatic 368, 3) := by decide +kernel
theorem dX12_power_30 : decode cX12_power 30 = .ok (.ifCond .eq 17, 3) := by decide +kernel
theorem dX12_power_33 : decode cX12_power 33 = .ok (.iload 4, 2) := by decide +kernel
theorem dX12_power_35 : decode cX12_power 35 = .ok (.iconst 0, 1) := by decide +kernel
theorem dX12_power_36 : decode cX12_power 36 = .ok (.iconst 1, 1) := by decide +kernel
theorem dX12_power_37 : decode cX12_power 37 = .ok (.invokestatic 368, 3) := by decide +kernel
theorem dX12_power_40 : decode cX12_power 40 = .ok (.ifCond .eq 7, 3) := by decide +kernel
theorem dX12_power_43 : decode cX12_power 43 = .ok (.iconst 1, 1) := by decide +kernel
theorem dX12_power_44 : decode cX12_power 44 = .ok (.goto 4, 3) := by decide +kernel
theorem dX12_power_47 : decode cX12_power 47 = .ok (.iconst 0, 1) := by decide +kernel
theorem dX12_power_48 : decode cX12_power 48 = .ok (.iconst 2, 1) := by decide +kernel
theorem dX12_power_49 : decode cX12_power 49 = .ok (.iconst 1, 1) := by decide +kernel
theorem dX12_power_50 : decode cX12_power 50 = .ok (.invokevirtual 190, 3) := by decide +kernel
theorem dX12_power_53 : decode cX12_power 53 = .ok (.ifCond .ne 5, 3) := by decide +kernel
theorem dX12_power_56 : decode cX12_power 56 = .ok (.iconst 0, 1) := by decide +kernel
theorem dX12_power_57 : decode cX12_power 57 = .ok (.ireturn, 1) := by decide +kernel
theorem dX12_power_58 : decode cX12_power 58 = .ok (.iconst 0, 1) := by decide +kernel
theorem dX12_power_59 : decode cX12_power 59 = .ok (.istore 5, 2) := by decide +kernel
theorem dX12_power_61 : decode cX12_power 61 = .ok (.iconst 0, 1) := by decide +kernel
theorem dX12_power_62 : decode cX12_power 62 = .ok (.istore 6, 2) := by decide +kernel
theorem dX12_power_64 : decode cX12_power 64 = .ok (.iload 6, 2) := by decide +kernel
theorem dX12_power_66 : decode cX12_power 66 = .ok (.sipush 128, 3) := by decide +kernel
theorem dX12_power_69 : decode cX12_power 69 = .ok (.if_icmp .ge 46, 3) := by decide +kernel
theorem dX12_power_72 : decode cX12_power 72 = .ok (.aload_n 0, 1) := by decide +kernel
theorem dX12_power_73 : decode cX12_power 73 = .ok (.iload_n 1, 1) := by decide +kernel
theorem dX12_power_74 : decode cX12_power 74 = .ok (.iload 6, 2) := by decide +kernel
theorem dX12_power_76 : decode cX12_power 76 = .ok (.iload_n 2, 1) := by decide +kernel
theorem dX12_power_77 : decode cX12_power 77 = .ok (.iload_n 3, 1) := by decide +kernel
theorem dX12_power_78 : decode cX12_power 78 = .ok (.invokevirtual 424, 3) := by decide +kernel
theorem dX12_power_81 : decode cX12_power 81 = .ok (.ifCond .eq 28, 3) := by decide +kernel
theorem dX12_power_84 : decode cX12_power 84 = .ok (.iload 5, 2) := by decide +kernel
theorem dX12_power_86 : decode cX12_power 86 = .ok (.iload 6, 2) := by decide +kernel
theorem dX12_power_88 : decode cX12_power 88 = .ok (.invokestatic 404, 3) := by decide +kernel
theorem dX12_power_91 : decode cX12_power 91 = .ok (.invokestatic 427, 3) := by decide +kernel
theorem dX12_power_94 : decode cX12_power 94 = .ok (.bipush 6, 2) := by decide +kernel
theorem dX12_power_96 : decode cX12_power 96 = .ok (.iload 6, 2) := by decide +kernel
theorem dX12_power_98 : decode cX12_power 98 = .ok (.invokestatic 404, 3) := by decide +kernel
theorem dX12_power_101 : decode cX12_power 101 = .ok (.isub, 1) := by decide +kernel
theorem dX12_power_102 : decode cX12_power 102 = .ok (.invokestatic 427, 3) := by decide +kernel
theorem dX12_power_105 : decode cX12_power 105 = .ok (.imul, 1) := by decide +kernel
theorem dX12_power_106 : decode cX12_power 106 = .ok (.iadd, 1) := by decide +kernel
theorem dX12_power_107 : decode cX12_power 107 = .ok (.istore 5, 2) := by decide +kernel
theorem dX12_power_109 : decode cX12_power 109 = .ok (.iinc 6 1, 3) := by decide +kernel
theorem dX12_power_112 : decode cX12_power 112 = .ok (.goto (-48), 3) := by decide +kernel
theorem dX12_power_115 : decode cX12_power 115 = .ok (.iload 5, 2) := by decide +kernel
theorem dX12_power_117 : decode cX12_power 117 = .ok (.i2l, 1) := by decide +kernel
theorem dX12_power_118 : decode cX12_power 118 = .ok (.bipush 7, 2) := by decide +kernel
theorem dX12_power_120 : decode cX12_power 120 = .ok (.invokestatic 427, 3) := by decide +kernel
theorem dX12_power_123 : decode cX12_power 123 = .ok (.i2l, 1) := by decide +kernel
theorem dX12_power_124 : decode cX12_power 124 = .ok (.iload 4, 2) := by decide +kernel
theorem dX12_power_126 : decode cX12_power 126 = .ok (.invokestatic 430, 3) := by decide +kernel
theorem dX12_power_129 : decode cX12_power 129 = .ok (.l2i, 1) := by decide +kernel
theorem dX12_power_130 : decode cX12_power 130 = .ok (.ireturn, 1) := by decide +kernel
theorem dX12_joins_0 : decode cX12_joins 0 = .ok (.aload_n 0, 1) := by decide +kernel
theorem dX12_joins_1 : decode cX12_joins 1 = .ok (.iconst 0, 1) := by decide +kernel
theorem dX12_joins_2 : decode cX12_joins 2 = .ok (.putfield 3, 3) := by decide +kernel
theorem dX12_joins_5 : decode cX12_joins 5 = .ok (.aload_n 0, 1) := by decide +kernel
theorem dX12_joins_6 : decode cX12_joins 6 = .ok (.iload_n 1, 1) := by decide +kernel
theorem dX12_joins_7 : decode cX12_joins 7 = .ok (.iconst 1, 1) := by decide +kernel
theorem dX12_joins_8 : decode cX12_joins 8 = .ok (.invokevirtual 377, 3) := by decide +kernel
theorem dX12_joins_11 : decode cX12_joins 11 = .ok (.ifCond .eq 12, 3) := by decide +kernel
theorem dX12_joins_14 : decode cX12_joins 14 = .ok (.aload_n 0, 1) := by decide +kernel
theorem dX12_joins_15 : decode cX12_joins 15 = .ok (.iload_n 2, 1) := by decide +kernel
theorem dX12_joins_16 : decode cX12_joins 16 = .ok (.iconst 1, 1) := by decide +kernel
theorem dX12_joins_17 : decode cX12_joins 17 = .ok (.invokevirtual 389, 3) := by decide +kernel
theorem dX12_joins_20 : decode cX12_joins 20 = .ok (.ifCond .ne 5, 3) := by decide +kernel
theorem dX12_joins_23 : decode cX12_joins 23 = .ok (.iconst 0, 1) := by decide +kernel
theorem dX12_joins_24 : decode cX12_joins 24 = .ok (.ireturn, 1) := by decide +kernel
theorem dX12_joins_25 : decode cX12_joins 25 = .ok (.aload_n 0, 1) := by decide +kernel
theorem dX12_joins_26 : decode cX12_joins 26 = .ok (.invokevirtual 301, 3) := by decide +kernel
theorem dX12_joins_29 : decode cX12_joins 29 = .ok (.aload_n 0, 1) := by decide +kernel
theorem dX12_joins_30 : decode cX12_joins 30 = .ok (.iload_n 1, 1) := by decide +kernel
theorem dX12_joins_31 : decode cX12_joins 31 = .ok (.iload_n 2, 1) := by decide +kernel
theorem dX12_joins_32 : decode cX12_joins 32 = .ok (.invokevirtual 342, 3) := by decide +kernel
theorem dX12_joins_35 : decode cX12_joins 35 = .ok (.ireturn, 1) := by decide +kernel
theorem dX12_withinAll_0 : decode cX12_withinAll 0 = .ok (.iconst 0, 1) := by decide +kernel
theorem dX12_withinAll_1 : decode cX12_withinAll 1 = .ok (.istore_n 2, 1) := by decide +kernel
theorem dX12_withinAll_2 : decode cX12_withinAll 2 = .ok (.iconst 0, 1) := by decide +kernel
theorem dX12_withinAll_3 : decode cX12_withinAll 3 = .ok (.istore_n 3, 1) := by decide +kernel
theorem dX12_withinAll_4 : decode cX12_withinAll 4 = .ok (.iload_n 3, 1) := by decide +kernel
theorem dX12_withinAll_5 : decode cX12_withinAll 5 = .ok (.aload_n 0, 1) := by decide +kernel
theorem dX12_withinAll_6 : decode cX12_withinAll 6 = .ok (.getfield 150, 3) := by decide +kernel
theorem dX12_withinAll_9 : decode cX12_withinAll 9 = .ok (.if_icmp .ge 23, 3) := by decide +kernel
theorem dX12_withinAll_12 : decode cX12_withinAll 12 = .ok (.iload_n 2, 1) := by decide +kernel
theorem dX12_withinAll_13 : decode cX12_withinAll 13 = .ok (.iload_n 1, 1) := by decide +kernel
theorem dX12_withinAll_14 : decode cX12_withinAll 14 = .ok (.iload_n 3, 1) := by decide +kernel
theorem dX12_withinAll_15 : decode cX12_withinAll 15 = .ok (.ishr, 1) := by decide +kernel
theorem dX12_withinAll_16 : decode cX12_withinAll 16 = .ok (.iconst 1, 1) := by decide +kernel
theorem dX12_withinAll_17 : decode cX12_withinAll 17 = .ok (.iand, 1) := by decide +kernel
theorem dX12_withinAll_18 : decode cX12_withinAll 18 = .ok (.aload_n 0, 1) := by decide +kernel
theorem dX12_withinAll_19 : decode cX12_withinAll 19 = .ok (.iload_n 3, 1) := by decide +kernel
theorem dX12_withinAll_20 : decode cX12_withinAll 20 = .ok (.invokevirtual 328, 3) := by decide +kernel
theorem dX12_withinAll_23 : decode cX12_withinAll 23 = .ok (.imul, 1) := by decide +kernel
theorem dX12_withinAll_24 : decode cX12_withinAll 24 = .ok (.iadd, 1) := by decide +kernel
theorem dX12_withinAll_25 : decode cX12_withinAll 25 = .ok (.istore_n 2, 1) := by decide +kernel
theorem dX12_withinAll_26 : decode cX12_withinAll 26 = .ok (.iinc 3 1, 3) := by decide +kernel
theorem dX12_withinAll_29 : decode cX12_withinAll 29 = .ok (.goto (-25), 3) := by decide +kernel
theorem dX12_withinAll_32 : decode cX12_withinAll 32 = .ok (.iload_n 2, 1) := by decide +kernel
theorem dX12_withinAll_33 : decode cX12_withinAll 33 = .ok (.ireturn, 1) := by decide +kernel
theorem dX12_would_0 : decode cX12_would 0 = .ok (.aload_n 0, 1) := by decide +kernel
theorem dX12_would_1 : decode cX12_would 1 = .ok (.iconst 0, 1) := by decide +kernel
theorem dX12_would_2 : decode cX12_would 2 = .ok (.putfield 3, 3) := by decide +kernel
theorem dX12_would_5 : decode cX12_would 5 = .ok (.aload_n 0, 1) := by decide +kernel
theorem dX12_would_6 : decode cX12_would 6 = .ok (.iload_n 1, 1) := by decide +kernel
theorem dX12_would_7 : decode cX12_would 7 = .ok (.invokestatic 386, 3) := by decide +kernel
theorem dX12_would_10 : decode cX12_would 10 = .ok (.ifCond .eq 86, 3) := by decide +kernel
theorem dX12_would_13 : decode cX12_would 13 = .ok (.iload_n 2, 1) := by decide +kernel
theorem dX12_would_14 : decode cX12_would 14 = .ok (.iconst 0, 1) := by decide +kernel
theorem dX12_would_15 : decode cX12_would 15 = .ok (.sipush 400, 3) := by decide +kernel
theorem dX12_would_18 : decode cX12_would 18 = .ok (.invokestatic 368, 3) := by decide +kernel
theorem dX12_would_21 : decode cX12_would 21 = .ok (.ifCond .eq 75, 3) := by decide +kernel
theorem dX12_would_24 : decode cX12_would 24 = .ok (.iload_n 3, 1) := by decide +kernel
theorem dX12_would_25 : decode cX12_would 25 = .ok (.iconst 1, 1) := by decide +kernel
theorem dX12_would_26 : decode cX12_would 26 = .ok (.bipush 9, 2) := by decide +kernel
theorem dX12_would_28 : decode cX12_would 28 = .ok (.invokestatic 368, 3) := by decide +kernel
theorem dX12_would_31 : decode cX12_would 31 = .ok (.ifCond .eq 65, 3) := by decide +kernel
theorem dX12_would_34 : decode cX12_would 34 = .ok (.iload 4, 2) := by decide +kernel
theorem dX12_would_36 : decode cX12_would 36 = .ok (.iconst 0, 1) := by decide +kernel
theorem dX12_would_37 : decode cX12_would 37 = .ok (.sipush 2800, 3) := by decide +kernel
theorem dX12_would_40 : decode cX12_would 40 = .ok (.invokestatic 368, 3) := by decide +kernel
theorem dX12_would_43 : decode cX12_would 43 = .ok (.ifCond .eq 53, 3) := by decide +kernel
theorem dX12_would_46 : decode cX12_would 46 = .ok (.iload 5, 2) := by decide +kernel
theorem dX12_would_48 : decode cX12_would 48 = .ok (.iconst 0, 1) := by decide +kernel
theorem dX12_would_49 : decode cX12_would 49 = .ok (.sipush 400, 3) := by decide +kernel
theorem dX12_would_52 : decode cX12_would 52 = .ok (.invokestatic 368, 3) := by decide +kernel
theorem dX12_would_55 : decode cX12_would 55 = .ok (.ifCond .eq 41, 3) := by decide +kernel
theorem dX12_would_58 : decode cX12_would 58 = .ok (.iload 6, 2) := by decide +kernel
theorem dX12_would_60 : decode cX12_would 60 = .ok (.iconst 0, 1) := by decide +kernel
theorem dX12_would_61 : decode cX12_would 61 = .ok (.sipush 999, 3) := by decide +kernel
theorem dX12_would_64 : decode cX12_would 64 = .ok (.invokestatic 368, 3) := by decide +kernel
theorem dX12_would_67 : decode cX12_would 67 = .ok (.ifCond .eq 29, 3) := by decide +kernel
theorem dX12_would_70 : decode cX12_would 70 = .ok (.iload 7, 2) := by decide +kernel
theorem dX12_would_72 : decode cX12_would 72 = .ok (.iconst 0, 1) := by decide +kernel
theorem dX12_would_73 : decode cX12_would 73 = .ok (.sipush 400, 3) := by decide +kernel
theorem dX12_would_76 : decode cX12_would 76 = .ok (.invokestatic 368, 3) := by decide +kernel
theorem dX12_would_79 : decode cX12_would 79 = .ok (.ifCond .eq 17, 3) := by decide +kernel
theorem dX12_would_82 : decode cX12_would 82 = .ok (.iload 8, 2) := by decide +kernel
theorem dX12_would_84 : decode cX12_would 84 = .ok (.iconst 0, 1) := by decide +kernel
theorem dX12_would_85 : decode cX12_would 85 = .ok (.iconst 5, 1) := by decide +kernel
theorem dX12_would_86 : decode cX12_would 86 = .ok (.invokestatic 368, 3) := by decide +kernel
theorem dX12_would_89 : decode cX12_would 89 = .ok (.ifCond .eq 7, 3) := by decide +kernel
theorem dX12_would_92 : decode cX12_would 92 = .ok (.iconst 1, 1) := by decide +kernel
theorem dX12_would_93 : decode cX12_would 93 = .ok (.goto 4, 3) := by decide +kernel
theorem dX12_would_96 : decode cX12_would 96 = .ok (.iconst 0, 1) := by decide +kernel
theorem dX12_would_97 : decode cX12_would 97 = .ok (.iconst 1, 1) := by decide +kernel
theorem dX12_would_98 : decode cX12_would 98 = .ok (.iconst 1, 1) := by decide +kernel
theorem dX12_would_99 : decode cX12_would 99 = .ok (.invokevirtual 190, 3) := by decide +kernel
theorem dX12_would_102 : decode cX12_would 102 = .ok (.ifCond .ne 5, 3) := by decide +kernel
theorem dX12_would_105 : decode cX12_would 105 = .ok (.iconst 0, 1) := by decide +kernel
theorem dX12_would_106 : decode cX12_would 106 = .ok (.ireturn, 1) := by decide +kernel
theorem dX12_would_107 : decode cX12_would 107 = .ok (.aload_n 0, 1) := by decide +kernel
theorem dX12_would_108 : decode cX12_would 108 = .ok (.iload_n 1, 1) := by decide +kernel
theorem dX12_would_109 : decode cX12_would 109 = .ok (.iload_n 2, 1) := by decide +kernel
theorem dX12_would_110 : decode cX12_would 110 = .ok (.iload_n 3, 1) := by decide +kernel
theorem dX12_would_111 : decode cX12_would 111 = .ok (.iload 4, 2) := by decide +kernel
theorem dX12_would_113 : decode cX12_would 113 = .ok (.iload 5, 2) := by decide +kernel
theorem dX12_would_115 : decode cX12_would 115 = .ok (.iload 6, 2) := by decide +kernel
theorem dX12_would_117 : decode cX12_would 117 = .ok (.iload 7, 2) := by decide +kernel
theorem dX12_would_119 : decode cX12_would 119 = .ok (.iload 8, 2) := by decide +kernel
theorem dX12_would_121 : decode cX12_would 121 = .ok (.invokevirtual 331, 3) := by decide +kernel
theorem dX12_would_124 : decode cX12_would 124 = .ok (.ireturn, 1) := by decide +kernel
theorem dX12_spotOf_0 : decode cX12_spotOf 0 = .ok (.iconst (-1), 1) := by decide +kernel
theorem dX12_spotOf_1 : decode cX12_spotOf 1 = .ok (.istore_n 3, 1) := by decide +kernel
theorem dX12_spotOf_2 : decode cX12_spotOf 2 = .ok (.iconst 0, 1) := by decide +kernel
theorem dX12_spotOf_3 : decode cX12_spotOf 3 = .ok (.istore 4, 2) := by decide +kernel
theorem dX12_spotOf_5 : decode cX12_spotOf 5 = .ok (.iload 4, 2) := by decide +kernel
theorem dX12_spotOf_7 : decode cX12_spotOf 7 = .ok (.bipush 7, 2) := by decide +kernel
theorem dX12_spotOf_9 : decode cX12_spotOf 9 = .ok (.if_icmp .ge 74, 3) := by decide +kernel
theorem dX12_spotOf_12 : decode cX12_spotOf 12 = .ok (.aload_n 0, 1) := by decide +kernel
theorem dX12_spotOf_13 : decode cX12_spotOf 13 = .ok (.getfield 62, 3) := by decide +kernel
theorem dX12_spotOf_16 : decode cX12_spotOf 16 = .ok (.bipush 42, 2) := by decide +kernel
theorem dX12_spotOf_18 : decode cX12_spotOf 18 = .ok (.iload_n 1, 1) := by decide +kernel
theorem dX12_spotOf_19 : decode cX12_spotOf 19 = .ok (.iload 4, 2) := by decide +kernel
theorem dX12_spotOf_21 : decode cX12_spotOf 21 = .ok (.invokestatic 319, 3) := by decide +kernel
theorem dX12_spotOf_24 : decode cX12_spotOf 24 = .ok (.iaload, 1) := by decide +kernel
theorem dX12_spotOf_25 : decode cX12_spotOf 25 = .ok (.ifCond .ne 6, 3) := by decide +kernel
theorem dX12_spotOf_28 : decode cX12_spotOf 28 = .ok (.goto 49, 3) := by decide +kernel
theorem dX12_spotOf_31 : decode cX12_spotOf 31 = .ok (.aload_n 0, 1) := by decide +kernel
theorem dX12_spotOf_32 : decode cX12_spotOf 32 = .ok (.getfield 62, 3) := by decide +kernel
theorem dX12_spotOf_35 : decode cX12_spotOf 35 = .ok (.bipush 84, 2) := by decide +kernel
theorem dX12_spotOf_37 : decode cX12_spotOf 37 = .ok (.iload_n 1, 1) := by decide +kernel
theorem dX12_spotOf_38 : decode cX12_spotOf 38 = .ok (.iload 4, 2) := by decide +kernel
theorem dX12_spotOf_40 : decode cX12_spotOf 40 = .ok (.invokestatic 319, 3) := by decide +kernel
theorem dX12_spotOf_43 : decode cX12_spotOf 43 = .ok (.iaload, 1) := by decide +kernel
theorem dX12_spotOf_44 : decode cX12_spotOf 44 = .ok (.istore 5, 2) := by decide +kernel
theorem dX12_spotOf_46 : decode cX12_spotOf 46 = .ok (.iload_n 3, 1) := by decide +kernel
theorem dX12_spotOf_47 : decode cX12_spotOf 47 = .ok (.iconst (-1), 1) := by decide +kernel
theorem dX12_spotOf_48 : decode cX12_spotOf 48 = .ok (.if_icmp .eq 22, 3) := by decide +kernel
theorem dX12_spotOf_51 : decode cX12_spotOf 51 = .ok (.iload_n 2, 1) := by decide +kernel
theorem dX12_spotOf_52 : decode cX12_spotOf 52 = .ok (.ifCond .ne 12, 3) := by decide +kernel
theorem dX12_spotOf_55 : decode cX12_spotOf 55 = .ok (.iload 5, 2) := by decide +kernel
theorem dX12_spotOf_57 : decode cX12_spotOf 57 = .ok (.iload_n 3, 1) := by decide +kernel
theorem dX12_spotOf_58 : decode cX12_spotOf 58 = .ok (.if_icmp .ge 17, 3) := by decide +kernel
theorem dX12_spotOf_61 : decode cX12_spotOf 61 = .ok (.goto 9, 3) := by decide +kernel
theorem dX12_spotOf_64 : decode cX12_spotOf 64 = .ok (.iload 5, 2) := by decide +kernel
theorem dX12_spotOf_66 : decode cX12_spotOf 66 = .ok (.iload_n 3, 1) := by decide +kernel
theorem dX12_spotOf_67 : decode cX12_spotOf 67 = .ok (.if_icmp .le 8, 3) := by decide +kernel
theorem dX12_spotOf_70 : decode cX12_spotOf 70 = .ok (.iload 5, 2) := by decide +kernel
theorem dX12_spotOf_72 : decode cX12_spotOf 72 = .ok (.goto 4, 3) := by decide +kernel
theorem dX12_spotOf_75 : decode cX12_spotOf 75 = .ok (.iload_n 3, 1) := by decide +kernel
theorem dX12_spotOf_76 : decode cX12_spotOf 76 = .ok (.istore_n 3, 1) := by decide +kernel
theorem dX12_spotOf_77 : decode cX12_spotOf 77 = .ok (.iinc 4 1, 3) := by decide +kernel
theorem dX12_spotOf_80 : decode cX12_spotOf 80 = .ok (.goto (-75), 3) := by decide +kernel
theorem dX12_spotOf_83 : decode cX12_spotOf 83 = .ok (.iload_n 3, 1) := by decide +kernel
theorem dX12_spotOf_84 : decode cX12_spotOf 84 = .ok (.ireturn, 1) := by decide +kernel
theorem dX12_turn_0 : decode cX12_turn 0 = .ok (.aload_n 0, 1) := by decide +kernel
theorem dX12_turn_1 : decode cX12_turn 1 = .ok (.iconst 0, 1) := by decide +kernel
theorem dX12_turn_2 : decode cX12_turn 2 = .ok (.putfield 3, 3) := by decide +kernel
theorem dX12_turn_5 : decode cX12_turn 5 = .ok (.aload_n 0, 1) := by decide +kernel
theorem dX12_turn_6 : decode cX12_turn 6 = .ok (.iload_n 1, 1) := by decide +kernel
theorem dX12_turn_7 : decode cX12_turn 7 = .ok (.iconst 1, 1) := by decide +kernel
theorem dX12_turn_8 : decode cX12_turn 8 = .ok (.invokevirtual 377, 3) := by decide +kernel
theorem dX12_turn_11 : decode cX12_turn 11 = .ok (.ifCond .eq 25, 3) := by decide +kernel
theorem dX12_turn_14 : decode cX12_turn 14 = .ok (.aload_n 0, 1) := by decide +kernel
theorem dX12_turn_15 : decode cX12_turn 15 = .ok (.iload_n 3, 1) := by decide +kernel
theorem dX12_turn_16 : decode cX12_turn 16 = .ok (.iconst 1, 1) := by decide +kernel
theorem dX12_turn_17 : decode cX12_turn 17 = .ok (.invokevirtual 389, 3) := by decide +kernel
theorem dX12_turn_20 : decode cX12_turn 20 = .ok (.ifCond .eq 16, 3) := by decide +kernel
theorem dX12_turn_23 : decode cX12_turn 23 = .ok (.aload_n 0, 1) := by decide +kernel
theorem dX12_turn_24 : decode cX12_turn 24 = .ok (.iload_n 2, 1) := by decide +kernel
theorem dX12_turn_25 : decode cX12_turn 25 = .ok (.invokestatic 386, 3) := by decide +kernel
theorem dX12_turn_28 : decode cX12_turn 28 = .ok (.iconst 2, 1) := by decide +kernel
theorem dX12_turn_29 : decode cX12_turn 29 = .ok (.iconst 1, 1) := by decide +kernel
theorem dX12_turn_30 : decode cX12_turn 30 = .ok (.invokevirtual 190, 3) := by decide +kernel
theorem dX12_turn_33 : decode cX12_turn 33 = .ok (.ifCond .ne 5, 3) := by decide +kernel
theorem dX12_turn_36 : decode cX12_turn 36 = .ok (.iconst 0, 1) := by decide +kernel
theorem dX12_turn_37 : decode cX12_turn 37 = .ok (.ireturn, 1) := by decide +kernel
theorem dX12_turn_38 : decode cX12_turn 38 = .ok (.aload_n 0, 1) := by decide +kernel
theorem dX12_turn_39 : decode cX12_turn 39 = .ok (.invokevirtual 301, 3) := by decide +kernel
theorem dX12_turn_42 : decode cX12_turn 42 = .ok (.aload_n 0, 1) := by decide +kernel
theorem dX12_turn_43 : decode cX12_turn 43 = .ok (.iload_n 1, 1) := by decide +kernel
theorem dX12_turn_44 : decode cX12_turn 44 = .ok (.iload_n 2, 1) := by decide +kernel
theorem dX12_turn_45 : decode cX12_turn 45 = .ok (.iload_n 3, 1) := by decide +kernel
theorem dX12_turn_46 : decode cX12_turn 46 = .ok (.aload_n 0, 1) := by decide +kernel
theorem dX12_turn_47 : decode cX12_turn 47 = .ok (.getfield 62, 3) := by decide +kernel
theorem dX12_turn_50 : decode cX12_turn 50 = .ok (.iconst 0, 1) := by decide +kernel
theorem dX12_turn_51 : decode cX12_turn 51 = .ok (.iload_n 1, 1) := by decide +kernel
theorem dX12_turn_52 : decode cX12_turn 52 = .ok (.iload_n 2, 1) := by decide +kernel
theorem dX12_turn_53 : decode cX12_turn 53 = .ok (.invokestatic 319, 3) := by decide +kernel
theorem dX12_turn_56 : decode cX12_turn 56 = .ok (.iaload, 1) := by decide +kernel
theorem dX12_turn_57 : decode cX12_turn 57 = .ok (.invokevirtual 338, 3) := by decide +kernel
theorem dX12_turn_60 : decode cX12_turn 60 = .ok (.ireturn, 1) := by decide +kernel
theorem dX12_through_0 : decode cX12_through 0 = .ok (.aload_n 0, 1) := by decide +kernel
theorem dX12_through_1 : decode cX12_through 1 = .ok (.iconst 0, 1) := by decide +kernel
theorem dX12_through_2 : decode cX12_through 2 = .ok (.putfield 3, 3) := by decide +kernel
theorem dX12_through_5 : decode cX12_through 5 = .ok (.aload_n 0, 1) := by decide +kernel
theorem dX12_through_6 : decode cX12_through 6 = .ok (.iload_n 1, 1) := by decide +kernel
theorem dX12_through_7 : decode cX12_through 7 = .ok (.iconst 1, 1) := by decide +kernel
theorem dX12_through_8 : decode cX12_through 8 = .ok (.invokevirtual 377, 3) := by decide +kernel
theorem dX12_through_11 : decode cX12_through 11 = .ok (.ifCond .eq 38, 3) := by decide +kernel
theorem dX12_through_14 : decode cX12_through 14 = .ok (.aload_n 0, 1) := by decide +kernel
theorem dX12_through_15 : decode cX12_through 15 = .ok (.iload_n 2, 1) := by decide +kernel
theorem dX12_through_16 : decode cX12_through 16 = .ok (.invokestatic 386, 3) := by decide +kernel
theorem dX12_through_19 : decode cX12_through 19 = .ok (.ifCond .eq 21, 3) := by decide +kernel
theorem dX12_through_22 : decode cX12_through 22 = .ok (.iload_n 3, 1) := by decide +kernel
theorem dX12_through_23 : decode cX12_through 23 = .ok (.iconst 0, 1) := by decide +kernel
theorem dX12_through_24 : decode cX12_through 24 = .ok (.aload_n 0, 1) := by decide +kernel
theorem dX12_through_25 : decode cX12_through 25 = .ok (.getfield 156, 3) := by decide +kernel
theorem dX12_through_28 : decode cX12_through 28 = .ok (.iconst 1, 1) := by decide +kernel
theorem dX12_through_29 : decode cX12_through 29 = .ok (.isub, 1) := by decide +kernel
theorem dX12_through_30 : decode cX12_through 30 = .ok (.invokestatic 368, 3) := by decide +kernel
theorem dX12_through_33 : decode cX12_through 33 = .ok (.ifCond .eq 7, 3) := by decide +kernel
theorem dX12_through_36 : decode cX12_through 36 = .ok (.iconst 1, 1) := by decide +kernel
theorem dX12_through_37 : decode cX12_through 37 = .ok (.goto 4, 3) := by decide +kernel
theorem dX12_through_40 : decode cX12_through 40 = .ok (.iconst 0, 1) := by decide +kernel
theorem dX12_through_41 : decode cX12_through 41 = .ok (.iconst 2, 1) := by decide +kernel
theorem dX12_through_42 : decode cX12_through 42 = .ok (.iconst 1, 1) := by decide +kernel
theorem dX12_through_43 : decode cX12_through 43 = .ok (.invokevirtual 190, 3) := by decide +kernel
theorem dX12_through_46 : decode cX12_through 46 = .ok (.ifCond .ne 5, 3) := by decide +kernel
theorem dX12_through_49 : decode cX12_through 49 = .ok (.iconst 0, 1) := by decide +kernel
theorem dX12_through_50 : decode cX12_through 50 = .ok (.ireturn, 1) := by decide +kernel
theorem dX12_through_51 : decode cX12_through 51 = .ok (.aload_n 0, 1) := by decide +kernel
theorem dX12_through_52 : decode cX12_through 52 = .ok (.invokevirtual 301, 3) := by decide +kernel
theorem dX12_through_55 : decode cX12_through 55 = .ok (.iconst (-1), 1) := by decide +kernel
theorem dX12_through_56 : decode cX12_through 56 = .ok (.istore 4, 2) := by decide +kernel
theorem dX12_through_58 : decode cX12_through 58 = .ok (.iconst 0, 1) := by decide +kernel
theorem dX12_through_59 : decode cX12_through 59 = .ok (.istore 5, 2) := by decide +kernel
theorem dX12_through_61 : decode cX12_through 61 = .ok (.iload 5, 2) := by decide +kernel
theorem dX12_through_63 : decode cX12_through 63 = .ok (.iconst 1, 1) := by decide +kernel
theorem dX12_through_64 : decode cX12_through 64 = .ok (.aload_n 0, 1) := by decide +kernel
theorem dX12_through_65 : decode cX12_through 65 = .ok (.getfield 153, 3) := by decide +kernel
theorem dX12_through_68 : decode cX12_through 68 = .ok (.ishl, 1) := by decide +kernel
theorem dX12_through_69 : decode cX12_through 69 = .ok (.if_icmp .ge 129, 3) := by decide +kernel
theorem dX12_through_72 : decode cX12_through 72 = .ok (.iconst 0, 1) := by decide +kernel
theorem dX12_through_73 : decode cX12_through 73 = .ok (.istore 6, 2) := by decide +kernel
theorem dX12_through_75 : decode cX12_through 75 = .ok (.iload 4, 2) := by decide +kernel
theorem dX12_through_77 : decode cX12_through 77 = .ok (.iconst (-1), 1) := by decide +kernel
theorem dX12_through_78 : decode cX12_through 78 = .ok (.if_icmp .eq 16, 3) := by decide +kernel
theorem dX12_through_81 : decode cX12_through 81 = .ok (.iload 5, 2) := by decide +kernel
theorem dX12_through_83 : decode cX12_through 83 = .ok (.invokestatic 404, 3) := by decide +kernel
theorem dX12_through_86 : decode cX12_through 86 = .ok (.iload 4, 2) := by decide +kernel
theorem dX12_through_88 : decode cX12_through 88 = .ok (.invokestatic 404, 3) := by decide +kernel
theorem dX12_through_91 : decode cX12_through 91 = .ok (.if_icmp .ge 7, 3) := by decide +kernel
theorem dX12_through_94 : decode cX12_through 94 = .ok (.iconst 1, 1) := by decide +kernel
theorem dX12_through_95 : decode cX12_through 95 = .ok (.goto 4, 3) := by decide +kernel
theorem dX12_through_98 : decode cX12_through 98 = .ok (.iconst 0, 1) := by decide +kernel
theorem dX12_through_99 : decode cX12_through 99 = .ok (.istore 7, 2) := by decide +kernel
theorem dX12_through_101 : decode cX12_through 101 = .ok (.iconst 0, 1) := by decide +kernel
theorem dX12_through_102 : decode cX12_through 102 = .ok (.istore 8, 2) := by decide +kernel
theorem dX12_through_104 : decode cX12_through 104 = .ok (.iload 8, 2) := by decide +kernel
theorem dX12_through_106 : decode cX12_through 106 = .ok (.aload_n 0, 1) := by decide +kernel
theorem dX12_through_107 : decode cX12_through 107 = .ok (.getfield 153, 3) := by decide +kernel
theorem dX12_through_110 : decode cX12_through 110 = .ok (.if_icmp .ge 67, 3) := by decide +kernel
theorem dX12_through_113 : decode cX12_through 113 = .ok (.iload 7, 2) := by decide +kernel
theorem dX12_through_115 : decode cX12_through 115 = .ok (.ifCond .eq 62, 3) := by decide +kernel
theorem dX12_through_118 : decode cX12_through 118 = .ok (.iload 5, 2) := by decide +kernel
theorem dX12_through_120 : decode cX12_through 120 = .ok (.iload 8, 2) := by decide +kernel
theorem dX12_through_122 : decode cX12_through 122 = .ok (.ishr, 1) := by decide +kernel
theorem dX12_through_123 : decode cX12_through 123 = .ok (.iconst 1, 1) := by decide +kernel
theorem dX12_through_124 : decode cX12_through 124 = .ok (.iand, 1) := by decide +kernel
theorem dX12_through_125 : decode cX12_through 125 = .ok (.ifCond .ne 6, 3) := by decide +kernel
theorem dX12_through_128 : decode cX12_through 128 = .ok (.goto 43, 3) := by decide +kernel
theorem dX12_through_131 : decode cX12_through 131 = .ok (.aload_n 0, 1) := by decide +kernel
theorem dX12_through_132 : decode cX12_through 132 = .ok (.iload 8, 2) := by decide +kernel
theorem dX12_through_134 : decode cX12_through 134 = .ok (.invokevirtual 335, 3) := by decide +kernel
theorem dX12_through_137 : decode cX12_through 137 = .ok (.ifCond .ne 7, 3) := by decide +kernel
theorem dX12_through_140 : decode cX12_through 140 = .ok (.iconst 1, 1) := by decide +kernel
theorem dX12_through_141 : decode cX12_through 141 = .ok (.goto 4, 3) := by decide +kernel
theorem dX12_through_144 : decode cX12_through 144 = .ok (.iconst 0, 1) := by decide +kernel
theorem dX12_through_145 : decode cX12_through 145 = .ok (.istore 7, 2) := by decide +kernel
theorem dX12_through_147 : decode cX12_through 147 = .ok (.iload 6, 2) := by decide +kernel
theorem dX12_through_149 : decode cX12_through 149 = .ok (.aload_n 0, 1) := by decide +kernel
theorem dX12_through_150 : decode cX12_through 150 = .ok (.iload_n 1, 1) := by decide +kernel
theorem dX12_through_151 : decode cX12_through 151 = .ok (.iload_n 2, 1) := by decide +kernel
theorem dX12_through_152 : decode cX12_through 152 = .ok (.iload 8, 2) := by decide +kernel
theorem dX12_through_154 : decode cX12_through 154 = .ok (.aload_n 0, 1) := by decide +kernel
theorem dX12_through_155 : decode cX12_through 155 = .ok (.getfield 62, 3) := by decide +kernel
theorem dX12_through_158 : decode cX12_through 158 = .ok (.iconst 0, 1) := by decide +kernel
theorem dX12_through_159 : decode cX12_through 159 = .ok (.iload_n 1, 1) := by decide +kernel
theorem dX12_through_160 : decode cX12_through 160 = .ok (.iload_n 2, 1) := by decide +kernel
theorem dX12_through_161 : decode cX12_through 161 = .ok (.invokestatic 319, 3) := by decide +kernel
theorem dX12_through_164 : decode cX12_through 164 = .ok (.iaload, 1) := by decide +kernel
theorem dX12_through_165 : decode cX12_through 165 = .ok (.invokevirtual 338, 3) := by decide +kernel
theorem dX12_through_168 : decode cX12_through 168 = .ok (.iadd, 1) := by decide +kernel
theorem dX12_through_169 : decode cX12_through 169 = .ok (.istore 6, 2) := by decide +kernel
theorem dX12_through_171 : decode cX12_through 171 = .ok (.iinc 8 1, 3) := by decide +kernel
theorem dX12_through_174 : decode cX12_through 174 = .ok (.goto (-70), 3) := by decide +kernel
theorem dX12_through_177 : decode cX12_through 177 = .ok (.iload 7, 2) := by decide +kernel
theorem dX12_through_179 : decode cX12_through 179 = .ok (.ifCond .eq 13, 3) := by decide +kernel
theorem dX12_through_182 : decode cX12_through 182 = .ok (.iload 6, 2) := by decide +kernel
theorem dX12_through_184 : decode cX12_through 184 = .ok (.iload_n 3, 1) := by decide +kernel
theorem dX12_through_185 : decode cX12_through 185 = .ok (.if_icmp .ne 7, 3) := by decide +kernel
theorem dX12_through_188 : decode cX12_through 188 = .ok (.iload 5, 2) := by decide +kernel
theorem dX12_through_190 : decode cX12_through 190 = .ok (.istore 4, 2) := by decide +kernel
theorem dX12_through_192 : decode cX12_through 192 = .ok (.iinc 5 1, 3) := by decide +kernel
theorem dX12_through_195 : decode cX12_through 195 = .ok (.goto (-134), 3) := by decide +kernel
theorem dX12_through_198 : decode cX12_through 198 = .ok (.iload 4, 2) := by decide +kernel
theorem dX12_through_200 : decode cX12_through 200 = .ok (.ireturn, 1) := by decide +kernel
theorem dX12_spreadOf_0 : decode cX12_spreadOf 0 = .ok (.iconst 0, 1) := by decide +kernel
theorem dX12_spreadOf_1 : decode cX12_spreadOf 1 = .ok (.istore_n 2, 1) := by decide +kernel
theorem dX12_spreadOf_2 : decode cX12_spreadOf 2 = .ok (.iconst 0, 1) := by decide +kernel
theorem dX12_spreadOf_3 : decode cX12_spreadOf 3 = .ok (.istore_n 3, 1) := by decide +kernel
theorem dX12_spreadOf_4 : decode cX12_spreadOf 4 = .ok (.iconst 0, 1) := by decide +kernel
theorem dX12_spreadOf_5 : decode cX12_spreadOf 5 = .ok (.istore 4, 2) := by decide +kernel
theorem dX12_spreadOf_7 : decode cX12_spreadOf 7 = .ok (.iload 4, 2) := by decide +kernel
theorem dX12_spreadOf_9 : decode cX12_spreadOf 9 = .ok (.bipush 7, 2) := by decide +kernel
theorem dX12_spreadOf_11 : decode cX12_spreadOf 11 = .ok (.if_icmp .ge 86, 3) := by decide +kernel
theorem dX12_spreadOf_14 : decode cX12_spreadOf 14 = .ok (.iconst 0, 1) := by decide +kernel
theorem dX12_spreadOf_15 : decode cX12_spreadOf 15 = .ok (.istore 5, 2) := by decide +kernel
theorem dX12_spreadOf_17 : decode cX12_spreadOf 17 = .ok (.iconst 0, 1) := by decide +kernel
theorem dX12_spreadOf_18 : decode cX12_spreadOf 18 = .ok (.istore 6, 2) := by decide +kernel
theorem dX12_spreadOf_20 : decode cX12_spreadOf 20 = .ok (.iload 6, 2) := by decide +kernel
theorem dX12_spreadOf_22 : decode cX12_spreadOf 22 = .ok (.aload_n 0, 1) := by decide +kernel
theorem dX12_spreadOf_23 : decode cX12_spreadOf 23 = .ok (.getfield 150, 3) := by decide +kernel
theorem dX12_spreadOf_26 : decode cX12_spreadOf 26 = .ok (.if_icmp .ge 34, 3) := by decide +kernel
theorem dX12_spreadOf_29 : decode cX12_spreadOf 29 = .ok (.iload 5, 2) := by decide +kernel
theorem dX12_spreadOf_31 : decode cX12_spreadOf 31 = .ok (.iload_n 1, 1) := by decide +kernel
theorem dX12_spreadOf_32 : decode cX12_spreadOf 32 = .ok (.iload 6, 2) := by decide +kernel
theorem dX12_spreadOf_34 : decode cX12_spreadOf 34 = .ok (.ishr, 1) := by decide +kernel
theorem dX12_spreadOf_35 : decode cX12_spreadOf 35 = .ok (.iconst 1, 1) := by decide +kernel
theorem dX12_spreadOf_36 : decode cX12_spreadOf 36 = .ok (.iand, 1) := by decide +kernel
theorem dX12_spreadOf_37 : decode cX12_spreadOf 37 = .ok (.aload_n 0, 1) := by decide +kernel
theorem dX12_spreadOf_38 : decode cX12_spreadOf 38 = .ok (.getfield 62, 3) := by decide +kernel
theorem dX12_spreadOf_41 : decode cX12_spreadOf 41 = .ok (.iconst 0, 1) := by decide +kernel
theorem dX12_spreadOf_42 : decode cX12_spreadOf 42 = .ok (.iload 6, 2) := by decide +kernel
theorem dX12_spreadOf_44 : decode cX12_spreadOf 44 = .ok (.iload 4, 2) := by decide +kernel
theorem dX12_spreadOf_46 : decode cX12_spreadOf 46 = .ok (.invokestatic 319, 3) := by decide +kernel
theorem dX12_spreadOf_49 : decode cX12_spreadOf 49 = .ok (.iaload, 1) := by decide +kernel
theorem dX12_spreadOf_50 : decode cX12_spreadOf 50 = .ok (.imul, 1) := by decide +kernel
theorem dX12_spreadOf_51 : decode cX12_spreadOf 51 = .ok (.iadd, 1) := by decide +kernel
theorem dX12_spreadOf_52 : decode cX12_spreadOf 52 = .ok (.istore 5, 2) := by decide +kernel
theorem dX12_spreadOf_54 : decode cX12_spreadOf 54 = .ok (.iinc 6 1, 3) := by decide +kernel
theorem dX12_spreadOf_57 : decode cX12_spreadOf 57 = .ok (.goto (-37), 3) := by decide +kernel
theorem dX12_spreadOf_60 : decode cX12_spreadOf 60 = .ok (.iload 4, 2) := by decide +kernel
theorem dX12_spreadOf_62 : decode cX12_spreadOf 62 = .ok (.ifCond .eq 9, 3) := by decide +kernel
theorem dX12_spreadOf_65 : decode cX12_spreadOf 65 = .ok (.iload 5, 2) := by decide +kernel
theorem dX12_spreadOf_67 : decode cX12_spreadOf 67 = .ok (.iload_n 2, 1) := by decide +kernel
theorem dX12_spreadOf_68 : decode cX12_spreadOf 68 = .ok (.if_icmp .ge 8, 3) := by decide +kernel
theorem dX12_spreadOf_71 : decode cX12_spreadOf 71 = .ok (.iload 5, 2) := by decide +kernel
theorem dX12_spreadOf_73 : decode cX12_spreadOf 73 = .ok (.goto 4, 3) := by decide +kernel
theorem dX12_spreadOf_76 : decode cX12_spreadOf 76 = .ok (.iload_n 2, 1) := by decide +kernel
theorem dX12_spreadOf_77 : decode cX12_spreadOf 77 = .ok (.istore_n 2, 1) := by decide +kernel
theorem dX12_spreadOf_78 : decode cX12_spreadOf 78 = .ok (.iload 5, 2) := by decide +kernel
theorem dX12_spreadOf_80 : decode cX12_spreadOf 80 = .ok (.iload_n 3, 1) := by decide +kernel
theorem dX12_spreadOf_81 : decode cX12_spreadOf 81 = .ok (.if_icmp .le 8, 3) := by decide +kernel
theorem dX12_spreadOf_84 : decode cX12_spreadOf 84 = .ok (.iload 5, 2) := by decide +kernel
theorem dX12_spreadOf_86 : decode cX12_spreadOf 86 = .ok (.goto 4, 3) := by decide +kernel
theorem dX12_spreadOf_89 : decode cX12_spreadOf 89 = .ok (.iload_n 3, 1) := by decide +kernel
theorem dX12_spreadOf_90 : decode cX12_spreadOf 90 = .ok (.istore_n 3, 1) := by decide +kernel
theorem dX12_spreadOf_91 : decode cX12_spreadOf 91 = .ok (.iinc 4 1, 3) := by decide +kernel
theorem dX12_spreadOf_94 : decode cX12_spreadOf 94 = .ok (.goto (-87), 3) := by decide +kernel
theorem dX12_spreadOf_97 : decode cX12_spreadOf 97 = .ok (.iload_n 3, 1) := by decide +kernel
theorem dX12_spreadOf_98 : decode cX12_spreadOf 98 = .ok (.iload_n 2, 1) := by decide +kernel
theorem dX12_spreadOf_99 : decode cX12_spreadOf 99 = .ok (.isub, 1) := by decide +kernel
theorem dX12_spreadOf_100 : decode cX12_spreadOf 100 = .ok (.ireturn, 1) := by decide +kernel
theorem dX12_bow_0 : decode cX12_bow 0 = .ok (.aload_n 0, 1) := by decide +kernel
theorem dX12_bow_1 : decode cX12_bow 1 = .ok (.iconst 0, 1) := by decide +kernel
theorem dX12_bow_2 : decode cX12_bow 2 = .ok (.putfield 3, 3) := by decide +kernel
theorem dX12_bow_5 : decode cX12_bow 5 = .ok (.aload_n 0, 1) := by decide +kernel
theorem dX12_bow_6 : decode cX12_bow 6 = .ok (.iload_n 1, 1) := by decide +kernel
theorem dX12_bow_7 : decode cX12_bow 7 = .ok (.iconst 0, 1) := by decide +kernel
theorem dX12_bow_8 : decode cX12_bow 8 = .ok (.iconst 1, 1) := by decide +kernel
theorem dX12_bow_9 : decode cX12_bow 9 = .ok (.invokestatic 368, 3) := by decide +kernel
theorem dX12_bow_12 : decode cX12_bow 12 = .ok (.iconst 1, 1) := by decide +kernel
theorem dX12_bow_13 : decode cX12_bow 13 = .ok (.iconst 1, 1) := by decide +kernel
theorem dX12_bow_14 : decode cX12_bow 14 = .ok (.invokevirtual 190, 3) := by decide +kernel
theorem dX12_bow_17 : decode cX12_bow 17 = .ok (.ifCond .ne 5, 3) := by decide +kernel
theorem dX12_bow_20 : decode cX12_bow 20 = .ok (.iconst 0, 1) := by decide +kernel
theorem dX12_bow_21 : decode cX12_bow 21 = .ok (.ireturn, 1) := by decide +kernel
theorem dX12_bow_22 : decode cX12_bow 22 = .ok (.aload_n 0, 1) := by decide +kernel
theorem dX12_bow_23 : decode cX12_bow 23 = .ok (.invokevirtual 301, 3) := by decide +kernel
theorem dX12_bow_26 : decode cX12_bow 26 = .ok (.iconst (-1), 1) := by decide +kernel
theorem dX12_bow_27 : decode cX12_bow 27 = .ok (.istore_n 2, 1) := by decide +kernel
theorem dX12_bow_28 : decode cX12_bow 28 = .ok (.iconst 3, 1) := by decide +kernel
theorem dX12_bow_29 : decode cX12_bow 29 = .ok (.istore_n 3, 1) := by decide +kernel
theorem dX12_bow_30 : decode cX12_bow 30 = .ok (.iload_n 3, 1) := by decide +kernel
theorem dX12_bow_31 : decode cX12_bow 31 = .ok (.iconst 1, 1) := by decide +kernel
theorem dX12_bow_32 : decode cX12_bow 32 = .ok (.aload_n 0, 1) := by decide +kernel
theorem dX12_bow_33 : decode cX12_bow 33 = .ok (.getfield 150, 3) := by decide +kernel
theorem dX12_bow_36 : decode cX12_bow 36 = .ok (.ishl, 1) := by decide +kernel
theorem dX12_bow_37 : decode cX12_bow 37 = .ok (.if_icmp .ge 67, 3) := by decide +kernel
theorem dX12_bow_40 : decode cX12_bow 40 = .ok (.iload_n 3, 1) := by decide +kernel
theorem dX12_bow_41 : decode cX12_bow 41 = .ok (.iload_n 3, 1) := by decide +kernel
theorem dX12_bow_42 : decode cX12_bow 42 = .ok (.iconst 1, 1) := by decide +kernel
theorem dX12_bow_43 : decode cX12_bow 43 = .ok (.isub, 1) := by decide +kernel
theorem dX12_bow_44 : decode cX12_bow 44 = .ok (.iand, 1) := by decide +kernel
theorem dX12_bow_45 : decode cX12_bow 45 = .ok (.ifCond .ne 6, 3) := by decide +kernel
theorem dX12_bow_48 : decode cX12_bow 48 = .ok (.goto 50, 3) := by decide +kernel
theorem dX12_bow_51 : decode cX12_bow 51 = .ok (.iload_n 2, 1) := by decide +kernel
theorem dX12_bow_52 : decode cX12_bow 52 = .ok (.iconst (-1), 1) := by decide +kernel
theorem dX12_bow_53 : decode cX12_bow 53 = .ok (.if_icmp .ne 7, 3) := by decide +kernel
theorem dX12_bow_56 : decode cX12_bow 56 = .ok (.iconst (-1), 1) := by decide +kernel
theorem dX12_bow_57 : decode cX12_bow 57 = .ok (.goto 14, 3) := by decide +kernel
theorem dX12_bow_60 : decode cX12_bow 60 = .ok (.aload_n 0, 1) := by decide +kernel
theorem dX12_bow_61 : decode cX12_bow 61 = .ok (.iload_n 3, 1) := by decide +kernel
theorem dX12_bow_62 : decode cX12_bow 62 = .ok (.invokevirtual 398, 3) := by decide +kernel
theorem dX12_bow_65 : decode cX12_bow 65 = .ok (.aload_n 0, 1) := by decide +kernel
theorem dX12_bow_66 : decode cX12_bow 66 = .ok (.iload_n 2, 1) := by decide +kernel
theorem dX12_bow_67 : decode cX12_bow 67 = .ok (.invokevirtual 398, 3) := by decide +kernel
theorem dX12_bow_70 : decode cX12_bow 70 = .ok (.isub, 1) := by decide +kernel
theorem dX12_bow_71 : decode cX12_bow 71 = .ok (.istore 4, 2) := by decide +kernel
theorem dX12_bow_73 : decode cX12_bow 73 = .ok (.iload 4, 2) := by decide +kernel
theorem dX12_bow_75 : decode cX12_bow 75 = .ok (.ifCond .lt 21, 3) := by decide +kernel
theorem dX12_bow_78 : decode cX12_bow 78 = .ok (.iload 4, 2) := by decide +kernel
theorem dX12_bow_80 : decode cX12_bow 80 = .ok (.ifCond .ne 18, 3) := by decide +kernel
theorem dX12_bow_83 : decode cX12_bow 83 = .ok (.aload_n 0, 1) := by decide +kernel
theorem dX12_bow_84 : decode cX12_bow 84 = .ok (.iload_n 3, 1) := by decide +kernel
theorem dX12_bow_85 : decode cX12_bow 85 = .ok (.invokevirtual 401, 3) := by decide +kernel
theorem dX12_bow_88 : decode cX12_bow 88 = .ok (.aload_n 0, 1) := by decide +kernel
theorem dX12_bow_89 : decode cX12_bow 89 = .ok (.iload_n 2, 1) := by decide +kernel
theorem dX12_bow_90 : decode cX12_bow 90 = .ok (.invokevirtual 401, 3) := by decide +kernel
theorem dX12_bow_93 : decode cX12_bow 93 = .ok (.if_icmp .le 5, 3) := by decide +kernel
theorem dX12_bow_96 : decode cX12_bow 96 = .ok (.iload_n 3, 1) := by decide +kernel
theorem dX12_bow_97 : decode cX12_bow 97 = .ok (.istore_n 2, 1) := by decide +kernel
theorem dX12_bow_98 : decode cX12_bow 98 = .ok (.iinc 3 1, 3) := by decide +kernel
theorem dX12_bow_101 : decode cX12_bow 101 = .ok (.goto (-71), 3) := by decide +kernel
theorem dX12_bow_104 : decode cX12_bow 104 = .ok (.iload_n 1, 1) := by decide +kernel
theorem dX12_bow_105 : decode cX12_bow 105 = .ok (.ifCond .eq 8, 3) := by decide +kernel
theorem dX12_bow_108 : decode cX12_bow 108 = .ok (.iload_n 2, 1) := by decide +kernel
theorem dX12_bow_109 : decode cX12_bow 109 = .ok (.iconst (-1), 1) := by decide +kernel
theorem dX12_bow_110 : decode cX12_bow 110 = .ok (.if_icmp .ne 7, 3) := by decide +kernel
theorem dX12_bow_113 : decode cX12_bow 113 = .ok (.iload_n 2, 1) := by decide +kernel
theorem dX12_bow_114 : decode cX12_bow 114 = .ok (.goto 8, 3) := by decide +kernel
theorem dX12_bow_117 : decode cX12_bow 117 = .ok (.aload_n 0, 1) := by decide +kernel
theorem dX12_bow_118 : decode cX12_bow 118 = .ok (.iload_n 2, 1) := by decide +kernel
theorem dX12_bow_119 : decode cX12_bow 119 = .ok (.invokevirtual 398, 3) := by decide +kernel
theorem dX12_bow_122 : decode cX12_bow 122 = .ok (.ireturn, 1) := by decide +kernel
theorem dX12_lightBy_0 : decode cX12_lightBy 0 = .ok (.iconst 0, 1) := by decide +kernel
theorem dX12_lightBy_1 : decode cX12_lightBy 1 = .ok (.istore_n 3, 1) := by decide +kernel
theorem dX12_lightBy_2 : decode cX12_lightBy 2 = .ok (.iconst 0, 1) := by decide +kernel
theorem dX12_lightBy_3 : decode cX12_lightBy 3 = .ok (.istore 4, 2) := by decide +kernel
theorem dX12_lightBy_5 : decode cX12_lightBy 5 = .ok (.iload 4, 2) := by decide +kernel
theorem dX12_lightBy_7 : decode cX12_lightBy 7 = .ok (.aload_n 0, 1) := by decide +kernel
theorem dX12_lightBy_8 : decode cX12_lightBy 8 = .ok (.getfield 150, 3) := by decide +kernel
theorem dX12_lightBy_11 : decode cX12_lightBy 11 = .ok (.if_icmp .ge 26, 3) := by decide +kernel
theorem dX12_lightBy_14 : decode cX12_lightBy 14 = .ok (.iload_n 3, 1) := by decide +kernel
theorem dX12_lightBy_15 : decode cX12_lightBy 15 = .ok (.iload_n 1, 1) := by decide +kernel
theorem dX12_lightBy_16 : decode cX12_lightBy 16 = .ok (.iload 4, 2) := by decide +kernel
theorem dX12_lightBy_18 : decode cX12_lightBy 18 = .ok (.ishr, 1) := by decide +kernel
theorem dX12_lightBy_19 : decode cX12_lightBy 19 = .ok (.iconst 1, 1) := by decide +kernel
theorem dX12_lightBy_20 : decode cX12_lightBy 20 = .ok (.iand, 1) := by decide +kernel
theorem dX12_lightBy_21 : decode cX12_lightBy 21 = .ok (.aload_n 0, 1) := by decide +kernel
theorem dX12_lightBy_22 : decode cX12_lightBy 22 = .ok (.iload 4, 2) := by decide +kernel
theorem dX12_lightBy_24 : decode cX12_lightBy 24 = .ok (.iload_n 2, 1) := by decide +kernel
theorem dX12_lightBy_25 : decode cX12_lightBy 25 = .ok (.invokevirtual 438, 3) := by decide +kernel
theorem dX12_lightBy_28 : decode cX12_lightBy 28 = .ok (.imul, 1) := by decide +kernel
theorem dX12_lightBy_29 : decode cX12_lightBy 29 = .ok (.iadd, 1) := by decide +kernel
theorem dX12_lightBy_30 : decode cX12_lightBy 30 = .ok (.istore_n 3, 1) := by decide +kernel
theorem dX12_lightBy_31 : decode cX12_lightBy 31 = .ok (.iinc 4 1, 3) := by decide +kernel
theorem dX12_lightBy_34 : decode cX12_lightBy 34 = .ok (.goto (-29), 3) := by decide +kernel
theorem dX12_lightBy_37 : decode cX12_lightBy 37 = .ok (.iload_n 3, 1) := by decide +kernel
theorem dX12_lightBy_38 : decode cX12_lightBy 38 = .ok (.ireturn, 1) := by decide +kernel
theorem dX12_areTogether_0 : decode cX12_areTogether 0 = .ok (.iconst 0, 1) := by decide +kernel
theorem dX12_areTogether_1 : decode cX12_areTogether 1 = .ok (.istore_n 2, 1) := by decide +kernel
theorem dX12_areTogether_2 : decode cX12_areTogether 2 = .ok (.iload_n 2, 1) := by decide +kernel
theorem dX12_areTogether_3 : decode cX12_areTogether 3 = .ok (.bipush 7, 2) := by decide +kernel
theorem dX12_areTogether_5 : decode cX12_areTogether 5 = .ok (.if_icmp .ge 81, 3) := by decide +kernel
theorem dX12_areTogether_8 : decode cX12_areTogether 8 = .ok (.iconst 0, 1) := by decide +kernel
theorem dX12_areTogether_9 : decode cX12_areTogether 9 = .ok (.istore_n 3, 1) := by decide +kernel
theorem dX12_areTogether_10 : decode cX12_areTogether 10 = .ok (.iload_n 3, 1) := by decide +kernel
theorem dX12_areTogether_11 : decode cX12_areTogether 11 = .ok (.iload_n 2, 1) := by decide +kernel
theorem dX12_areTogether_12 : decode cX12_areTogether 12 = .ok (.if_icmp .ge 68, 3) := by decide +kernel
theorem dX12_areTogether_15 : decode cX12_areTogether 15 = .ok (.aload_n 0, 1) := by decide +kernel
theorem dX12_areTogether_16 : decode cX12_areTogether 16 = .ok (.getfield 62, 3) := by decide +kernel
theorem dX12_areTogether_19 : decode cX12_areTogether 19 = .ok (.bipush 42, 2) := by decide +kernel
theorem dX12_areTogether_21 : decode cX12_areTogether 21 = .ok (.iload_n 1, 1) := by decide +kernel
theorem dX12_areTogether_22 : decode cX12_areTogether 22 = .ok (.iload_n 2, 1) := by decide +kernel
theorem dX12_areTogether_23 : decode cX12_areTogether 23 = .ok (.invokestatic 319, 3) := by decide +kernel
theorem dX12_areTogether_26 : decode cX12_areTogether 26 = .ok (.iaload, 1) := by decide +kernel
theorem dX12_areTogether_27 : decode cX12_areTogether 27 = .ok (.ifCond .le 47, 3) := by decide +kernel
theorem dX12_areTogether_30 : decode cX12_areTogether 30 = .ok (.aload_n 0, 1) := by decide +kernel
theorem dX12_areTogether_31 : decode cX12_areTogether 31 = .ok (.getfield 62, 3) := by decide +kernel
theorem dX12_areTogether_34 : decode cX12_areTogether 34 = .ok (.bipush 42, 2) := by decide +kernel
theorem dX12_areTogether_36 : decode cX12_areTogether 36 = .ok (.iload_n 1, 1) := by decide +kernel
theorem dX12_areTogether_37 : decode cX12_areTogether 37 = .ok (.iload_n 3, 1) := by decide +kernel
theorem dX12_areTogether_38 : decode cX12_areTogether 38 = .ok (.invokestatic 319, 3) := by decide +kernel
theorem dX12_areTogether_41 : decode cX12_areTogether 41 = .ok (.iaload, 1) := by decide +kernel
theorem dX12_areTogether_42 : decode cX12_areTogether 42 = .ok (.ifCond .le 32, 3) := by decide +kernel
theorem dX12_areTogether_45 : decode cX12_areTogether 45 = .ok (.aload_n 0, 1) := by decide +kernel
theorem dX12_areTogether_46 : decode cX12_areTogether 46 = .ok (.getfield 62, 3) := by decide +kernel
theorem dX12_areTogether_49 : decode cX12_areTogether 49 = .ok (.bipush 84, 2) := by decide +kernel
theorem dX12_areTogether_51 : decode cX12_areTogether 51 = .ok (.iload_n 1, 1) := by decide +kernel
theorem dX12_areTogether_52 : decode cX12_areTogether 52 = .ok (.iload_n 2, 1) := by decide +kernel
theorem dX12_areTogether_53 : decode cX12_areTogether 53 = .ok (.invokestatic 319, 3) := by decide +kernel
theorem dX12_areTogether_56 : decode cX12_areTogether 56 = .ok (.iaload, 1) := by decide +kernel
theorem dX12_areTogether_57 : decode cX12_areTogether 57 = .ok (.aload_n 0, 1) := by decide +kernel
theorem dX12_areTogether_58 : decode cX12_areTogether 58 = .ok (.getfield 62, 3) := by decide +kernel
theorem dX12_areTogether_61 : decode cX12_areTogether 61 = .ok (.bipush 84, 2) := by decide +kernel
theorem dX12_areTogether_63 : decode cX12_areTogether 63 = .ok (.iload_n 1, 1) := by decide +kernel
theorem dX12_areTogether_64 : decode cX12_areTogether 64 = .ok (.iload_n 3, 1) := by decide +kernel
theorem dX12_areTogether_65 : decode cX12_areTogether 65 = .ok (.invokestatic 319, 3) := by decide +kernel
theorem dX12_areTogether_68 : decode cX12_areTogether 68 = .ok (.iaload, 1) := by decide +kernel
theorem dX12_areTogether_69 : decode cX12_areTogether 69 = .ok (.if_icmp .ne 5, 3) := by decide +kernel
theorem dX12_areTogether_72 : decode cX12_areTogether 72 = .ok (.iconst 1, 1) := by decide +kernel
theorem dX12_areTogether_73 : decode cX12_areTogether 73 = .ok (.ireturn, 1) := by decide +kernel
theorem dX12_areTogether_74 : decode cX12_areTogether 74 = .ok (.iinc 3 1, 3) := by decide +kernel
theorem dX12_areTogether_77 : decode cX12_areTogether 77 = .ok (.goto (-67), 3) := by decide +kernel
theorem dX12_areTogether_80 : decode cX12_areTogether 80 = .ok (.iinc 2 1, 3) := by decide +kernel
theorem dX12_areTogether_83 : decode cX12_areTogether 83 = .ok (.goto (-81), 3) := by decide +kernel
theorem dX12_areTogether_86 : decode cX12_areTogether 86 = .ok (.iconst 0, 1) := by decide +kernel
theorem dX12_areTogether_87 : decode cX12_areTogether 87 = .ok (.ireturn, 1) := by decide +kernel
theorem dX12_isFellow_0 : decode cX12_isFellow 0 = .ok (.aload_n 0, 1) := by decide +kernel
theorem dX12_isFellow_1 : decode cX12_isFellow 1 = .ok (.iload_n 1, 1) := by decide +kernel
theorem dX12_isFellow_2 : decode cX12_isFellow 2 = .ok (.iconst 0, 1) := by decide +kernel
theorem dX12_isFellow_3 : decode cX12_isFellow 3 = .ok (.aload_n 0, 1) := by decide +kernel
theorem dX12_isFellow_4 : decode cX12_isFellow 4 = .ok (.getfield 150, 3) := by decide +kernel
theorem dX12_isFellow_7 : decode cX12_isFellow 7 = .ok (.iconst 1, 1) := by decide +kernel
theorem dX12_isFellow_8 : decode cX12_isFellow 8 = .ok (.isub, 1) := by decide +kernel
theorem dX12_isFellow_9 : decode cX12_isFellow 9 = .ok (.invokestatic 368, 3) := by decide +kernel
theorem dX12_isFellow_12 : decode cX12_isFellow 12 = .ok (.iload_n 2, 1) := by decide +kernel
theorem dX12_isFellow_13 : decode cX12_isFellow 13 = .ok (.iconst 0, 1) := by decide +kernel
theorem dX12_isFellow_14 : decode cX12_isFellow 14 = .ok (.invokevirtual 190, 3) := by decide +kernel
theorem dX12_isFellow_17 : decode cX12_isFellow 17 = .ok (.ireturn, 1) := by decide +kernel
theorem dX12_isSet_0 : decode cX12_isSet 0 = .ok (.iload_n 1, 1) := by decide +kernel
theorem dX12_isSet_1 : decode cX12_isSet 1 = .ok (.ifCond .lt 17, 3) := by decide +kernel
theorem dX12_isSet_4 : decode cX12_isSet 4 = .ok (.iload_n 1, 1) := by decide +kernel
theorem dX12_isSet_5 : decode cX12_isSet 5 = .ok (.iconst 1, 1) := by decide +kernel
theorem dX12_isSet_6 : decode cX12_isSet 6 = .ok (.aload_n 0, 1) := by decide +kernel
theorem dX12_isSet_7 : decode cX12_isSet 7 = .ok (.getfield 150, 3) := by decide +kernel
theorem dX12_isSet_10 : decode cX12_isSet 10 = .ok (.ishl, 1) := by decide +kernel
theorem dX12_isSet_11 : decode cX12_isSet 11 = .ok (.if_icmp .ge 7, 3) := by decide +kernel
theorem dX12_isSet_14 : decode cX12_isSet 14 = .ok (.iconst 1, 1) := by decide +kernel
theorem dX12_isSet_15 : decode cX12_isSet 15 = .ok (.goto 4, 3) := by decide +kernel
theorem dX12_isSet_18 : decode cX12_isSet 18 = .ok (.iconst 0, 1) := by decide +kernel
theorem dX12_isSet_19 : decode cX12_isSet 19 = .ok (.ireturn, 1) := by decide +kernel
theorem dX12_darkOf_0 : decode cX12_darkOf 0 = .ok (.iconst 0, 1) := by decide +kernel
theorem dX12_darkOf_1 : decode cX12_darkOf 1 = .ok (.istore_n 2, 1) := by decide +kernel
theorem dX12_darkOf_2 : decode cX12_darkOf 2 = .ok (.iconst 0, 1) := by decide +kernel
theorem dX12_darkOf_3 : decode cX12_darkOf 3 = .ok (.istore_n 3, 1) := by decide +kernel
theorem dX12_darkOf_4 : decode cX12_darkOf 4 = .ok (.iload_n 3, 1) := by decide +kernel
theorem dX12_darkOf_5 : decode cX12_darkOf 5 = .ok (.bipush 7, 2) := by decide +kernel
theorem dX12_darkOf_7 : decode cX12_darkOf 7 = .ok (.if_icmp .ge 48, 3) := by decide +kernel
theorem dX12_darkOf_10 : decode cX12_darkOf 10 = .ok (.iload_n 2, 1) := by decide +kernel
theorem dX12_darkOf_11 : decode cX12_darkOf 11 = .ok (.aload_n 0, 1) := by decide +kernel
theorem dX12_darkOf_12 : decode cX12_darkOf 12 = .ok (.getfield 62, 3) := by decide +kernel
theorem dX12_darkOf_15 : decode cX12_darkOf 15 = .ok (.iconst 0, 1) := by decide +kernel
theorem dX12_darkOf_16 : decode cX12_darkOf 16 = .ok (.iload_n 1, 1) := by decide +kernel
theorem dX12_darkOf_17 : decode cX12_darkOf 17 = .ok (.iload_n 3, 1) := by decide +kernel
theorem dX12_darkOf_18 : decode cX12_darkOf 18 = .ok (.invokestatic 319, 3) := by decide +kernel
theorem dX12_darkOf_21 : decode cX12_darkOf 21 = .ok (.iaload, 1) := by decide +kernel
theorem dX12_darkOf_22 : decode cX12_darkOf 22 = .ok (.ifCond .ne 24, 3) := by decide +kernel
theorem dX12_darkOf_25 : decode cX12_darkOf 25 = .ok (.aload_n 0, 1) := by decide +kernel
theorem dX12_darkOf_26 : decode cX12_darkOf 26 = .ok (.getfield 62, 3) := by decide +kernel
theorem dX12_darkOf_29 : decode cX12_darkOf 29 = .ok (.bipush 42, 2) := by decide +kernel
theorem dX12_darkOf_31 : decode cX12_darkOf 31 = .ok (.iload_n 1, 1) := by decide +kernel
theorem dX12_darkOf_32 : decode cX12_darkOf 32 = .ok (.iload_n 3, 1) := by decide +kernel
theorem dX12_darkOf_33 : decode cX12_darkOf 33 = .ok (.invokestatic 319, 3) := by decide +kernel
theorem dX12_darkOf_36 : decode cX12_darkOf 36 = .ok (.iaload, 1) := by decide +kernel
theorem dX12_darkOf_37 : decode cX12_darkOf 37 = .ok (.ifCond .ne 9, 3) := by decide +kernel
theorem dX12_darkOf_40 : decode cX12_darkOf 40 = .ok (.iconst 1, 1) := by decide +kernel
theorem dX12_darkOf_41 : decode cX12_darkOf 41 = .ok (.iload_n 3, 1) := by decide +kernel
theorem dX12_darkOf_42 : decode cX12_darkOf 42 = .ok (.ishl, 1) := by decide +kernel
theorem dX12_darkOf_43 : decode cX12_darkOf 43 = .ok (.goto 4, 3) := by decide +kernel
theorem dX12_darkOf_46 : decode cX12_darkOf 46 = .ok (.iconst 0, 1) := by decide +kernel
theorem dX12_darkOf_47 : decode cX12_darkOf 47 = .ok (.ior, 1) := by decide +kernel
theorem dX12_darkOf_48 : decode cX12_darkOf 48 = .ok (.istore_n 2, 1) := by decide +kernel
theorem dX12_darkOf_49 : decode cX12_darkOf 49 = .ok (.iinc 3 1, 3) := by decide +kernel
theorem dX12_darkOf_52 : decode cX12_darkOf 52 = .ok (.goto (-48), 3) := by decide +kernel
theorem dX12_darkOf_55 : decode cX12_darkOf 55 = .ok (.iload_n 2, 1) := by decide +kernel
theorem dX12_darkOf_56 : decode cX12_darkOf 56 = .ok (.ireturn, 1) := by decide +kernel
theorem dX12_green_0 : decode cX12_green 0 = .ok (.aload_n 0, 1) := by decide +kernel
theorem dX12_green_1 : decode cX12_green 1 = .ok (.iconst 0, 1) := by decide +kernel
theorem dX12_green_2 : decode cX12_green 2 = .ok (.putfield 3, 3) := by decide +kernel
theorem dX12_green_5 : decode cX12_green 5 = .ok (.aload_n 0, 1) := by decide +kernel
theorem dX12_green_6 : decode cX12_green 6 = .ok (.iload_n 1, 1) := by decide +kernel
theorem dX12_green_7 : decode cX12_green 7 = .ok (.iconst 0, 1) := by decide +kernel
theorem dX12_green_8 : decode cX12_green 8 = .ok (.bipush 12, 2) := by decide +kernel
theorem dX12_green_10 : decode cX12_green 10 = .ok (.invokestatic 368, 3) := by decide +kernel
theorem dX12_green_13 : decode cX12_green 13 = .ok (.ifCond .eq 26, 3) := by decide +kernel
theorem dX12_green_16 : decode cX12_green 16 = .ok (.iload_n 2, 1) := by decide +kernel
theorem dX12_green_17 : decode cX12_green 17 = .ok (.iconst 0, 1) := by decide +kernel
theorem dX12_green_18 : decode cX12_green 18 = .ok (.bipush 16, 2) := by decide +kernel
theorem dX12_green_20 : decode cX12_green 20 = .ok (.invokestatic 368, 3) := by decide +kernel
theorem dX12_green_23 : decode cX12_green 23 = .ok (.ifCond .eq 16, 3) := by decide +kernel
theorem dX12_green_26 : decode cX12_green 26 = .ok (.iload_n 3, 1) := by decide +kernel
theorem dX12_green_27 : decode cX12_green 27 = .ok (.iconst 0, 1) := by decide +kernel
theorem dX12_green_28 : decode cX12_green 28 = .ok (.iconst 1, 1) := by decide +kernel
theorem dX12_green_29 : decode cX12_green 29 = .ok (.invokestatic 368, 3) := by decide +kernel
theorem dX12_green_32 : decode cX12_green 32 = .ok (.ifCond .eq 7, 3) := by decide +kernel
theorem dX12_green_35 : decode cX12_green 35 = .ok (.iconst 1, 1) := by decide +kernel
theorem dX12_green_36 : decode cX12_green 36 = .ok (.goto 4, 3) := by decide +kernel
theorem dX12_green_39 : decode cX12_green 39 = .ok (.iconst 0, 1) := by decide +kernel
theorem dX12_green_40 : decode cX12_green 40 = .ok (.iconst 1, 1) := by decide +kernel
theorem dX12_green_41 : decode cX12_green 41 = .ok (.iconst 1, 1) := by decide +kernel
theorem dX12_green_42 : decode cX12_green 42 = .ok (.invokevirtual 190, 3) := by decide +kernel
theorem dX12_green_45 : decode cX12_green 45 = .ok (.ifCond .ne 5, 3) := by decide +kernel
theorem dX12_green_48 : decode cX12_green 48 = .ok (.lconst 0, 1) := by decide +kernel
theorem dX12_green_49 : decode cX12_green 49 = .ok (.lreturn, 1) := by decide +kernel
theorem dX12_green_50 : decode cX12_green 50 = .ok (.lconst 1, 1) := by decide +kernel
theorem dX12_green_51 : decode cX12_green 51 = .ok (.lstore 4, 2) := by decide +kernel
theorem dX12_green_53 : decode cX12_green 53 = .ok (.lconst 1, 1) := by decide +kernel
theorem dX12_green_54 : decode cX12_green 54 = .ok (.lstore 6, 2) := by decide +kernel
theorem dX12_green_56 : decode cX12_green 56 = .ok (.iconst 0, 1) := by decide +kernel
theorem dX12_green_57 : decode cX12_green 57 = .ok (.istore 8, 2) := by decide +kernel
theorem dX12_green_59 : decode cX12_green 59 = .ok (.iload 8, 2) := by decide +kernel
theorem dX12_green_61 : decode cX12_green 61 = .ok (.iload_n 1, 1) := by decide +kernel
theorem dX12_green_62 : decode cX12_green 62 = .ok (.if_icmp .ge 27, 3) := by decide +kernel
theorem dX12_green_65 : decode cX12_green 65 = .ok (.lload 4, 2) := by decide +kernel
theorem dX12_green_67 : decode cX12_green 67 = .ok (.bipush 16, 2) := by decide +kernel
theorem dX12_green_69 : decode cX12_green 69 = .ok (.iload_n 2, 1) := by decide +kernel
theorem dX12_green_70 : decode cX12_green 70 = .ok (.isub, 1) := by decide +kernel
theorem dX12_green_71 : decode cX12_green 71 = .ok (.i2l, 1) := by decide +kernel
theorem dX12_green_72 : decode cX12_green 72 = .ok (.lmul, 1) := by decide +kernel
theorem dX12_green_73 : decode cX12_green 73 = .ok (.lstore 4, 2) := by decide +kernel
theorem dX12_green_75 : decode cX12_green 75 = .ok (.lload 6, 2) := by decide +kernel
theorem dX12_green_77 : decode cX12_green 77 = .ok (.ldc2_w 433, 3) := by decide +kernel
theorem dX12_green_80 : decode cX12_green 80 = .ok (.lmul, 1) := by decide +kernel
theorem dX12_green_81 : decode cX12_green 81 = .ok (.lstore 6, 2) := by decide +kernel
theorem dX12_green_83 : decode cX12_green 83 = .ok (.iinc 8 1, 3) := by decide +kernel
theorem dX12_green_86 : decode cX12_green 86 = .ok (.goto (-27), 3) := by decide +kernel
theorem dX12_green_89 : decode cX12_green 89 = .ok (.lload 6, 2) := by decide +kernel
theorem dX12_green_91 : decode cX12_green 91 = .ok (.lload 4, 2) := by decide +kernel
theorem dX12_green_93 : decode cX12_green 93 = .ok (.lsub, 1) := by decide +kernel
theorem dX12_green_94 : decode cX12_green 94 = .ok (.lload 6, 2) := by decide +kernel
theorem dX12_green_96 : decode cX12_green 96 = .ok (.iload_n 3, 1) := by decide +kernel
theorem dX12_green_97 : decode cX12_green 97 = .ok (.invokestatic 430, 3) := by decide +kernel
theorem dX12_green_100 : decode cX12_green 100 = .ok (.lreturn, 1) := by decide +kernel
theorem dX12_bounded_0 : decode cX12_bounded 0 = .ok (.aload_n 0, 1) := by decide +kernel
theorem dX12_bounded_1 : decode cX12_bounded 1 = .ok (.iload_n 1, 1) := by decide +kernel
theorem dX12_bounded_2 : decode cX12_bounded 2 = .ok (.invokevirtual 328, 3) := by decide +kernel
theorem dX12_bounded_5 : decode cX12_bounded 5 = .ok (.iload_n 2, 1) := by decide +kernel
theorem dX12_bounded_6 : decode cX12_bounded 6 = .ok (.if_icmp .ge 11, 3) := by decide +kernel
theorem dX12_bounded_9 : decode cX12_bounded 9 = .ok (.aload_n 0, 1) := by decide +kernel
theorem dX12_bounded_10 : decode cX12_bounded 10 = .ok (.iload_n 1, 1) := by decide +kernel
theorem dX12_bounded_11 : decode cX12_bounded 11 = .ok (.invokevirtual 328, 3) := by decide +kernel
theorem dX12_bounded_14 : decode cX12_bounded 14 = .ok (.goto 4, 3) := by decide +kernel
theorem dX12_bounded_17 : decode cX12_bounded 17 = .ok (.iload_n 2, 1) := by decide +kernel
theorem dX12_bounded_18 : decode cX12_bounded 18 = .ok (.ireturn, 1) := by decide +kernel
theorem dX12_strongest_0 : decode cX12_strongest 0 = .ok (.aload_n 0, 1) := by decide +kernel
theorem dX12_strongest_1 : decode cX12_strongest 1 = .ok (.iconst 0, 1) := by decide +kernel
theorem dX12_strongest_2 : decode cX12_strongest 2 = .ok (.putfield 3, 3) := by decide +kernel
theorem dX12_strongest_5 : decode cX12_strongest 5 = .ok (.aload_n 0, 1) := by decide +kernel
theorem dX12_strongest_6 : decode cX12_strongest 6 = .ok (.iload_n 1, 1) := by decide +kernel
theorem dX12_strongest_7 : decode cX12_strongest 7 = .ok (.iconst 1, 1) := by decide +kernel
theorem dX12_strongest_8 : decode cX12_strongest 8 = .ok (.invokevirtual 377, 3) := by decide +kernel
theorem dX12_strongest_11 : decode cX12_strongest 11 = .ok (.ifCond .eq 18, 3) := by decide +kernel
theorem dX12_strongest_14 : decode cX12_strongest 14 = .ok (.aload_n 0, 1) := by decide +kernel
theorem dX12_strongest_15 : decode cX12_strongest 15 = .ok (.iload_n 2, 1) := by decide +kernel
theorem dX12_strongest_16 : decode cX12_strongest 16 = .ok (.iconst 0, 1) := by decide +kernel
theorem dX12_strongest_17 : decode cX12_strongest 17 = .ok (.iconst 1, 1) := by decide +kernel
theorem dX12_strongest_18 : decode cX12_strongest 18 = .ok (.invokestatic 368, 3) := by decide +kernel
theorem dX12_strongest_21 : decode cX12_strongest 21 = .ok (.iconst 2, 1) := by decide +kernel
theorem dX12_strongest_22 : decode cX12_strongest 22 = .ok (.iconst 1, 1) := by decide +kernel
theorem dX12_strongest_23 : decode cX12_strongest 23 = .ok (.invokevirtual 190, 3) := by decide +kernel
theorem dX12_strongest_26 : decode cX12_strongest 26 = .ok (.ifCond .ne 5, 3) := by decide +kernel
theorem dX12_strongest_29 : decode cX12_strongest 29 = .ok (.iconst 0, 1) := by decide +kernel
theorem dX12_strongest_30 : decode cX12_strongest 30 = .ok (.ireturn, 1) := by decide +kernel
theorem dX12_strongest_31 : decode cX12_strongest 31 = .ok (.iconst 0, 1) := by decide +kernel
theorem dX12_strongest_32 : decode cX12_strongest 32 = .ok (.istore_n 3, 1) := by decide +kernel
theorem dX12_strongest_33 : decode cX12_strongest 33 = .ok (.iconst 1, 1) := by decide +kernel
theorem dX12_strongest_34 : decode cX12_strongest 34 = .ok (.istore 4, 2) := by decide +kernel
theorem dX12_strongest_36 : decode cX12_strongest 36 = .ok (.iload 4, 2) := by decide +kernel
theorem dX12_strongest_38 : decode cX12_strongest 38 = .ok (.bipush 7, 2) := by decide +kernel
theorem dX12_strongest_40 : decode cX12_strongest 40 = .ok (.if_icmp .ge 42, 3) := by decide +kernel
theorem dX12_strongest_43 : decode cX12_strongest 43 = .ok (.aload_n 0, 1) := by decide +kernel
theorem dX12_strongest_44 : decode cX12_strongest 44 = .ok (.getfield 59, 3) := by decide +kernel
theorem dX12_strongest_47 : decode cX12_strongest 47 = .ok (.iconst 0, 1) := by decide +kernel
theorem dX12_strongest_48 : decode cX12_strongest 48 = .ok (.iload_n 1, 1) := by decide +kernel
theorem dX12_strongest_49 : decode cX12_strongest 49 = .ok (.iload 4, 2) := by decide +kernel
theorem dX12_strongest_51 : decode cX12_strongest 51 = .ok (.invokestatic 319, 3) := by decide +kernel
theorem dX12_strongest_54 : decode cX12_strongest 54 = .ok (.iaload, 1) := by decide +kernel
theorem dX12_strongest_55 : decode cX12_strongest 55 = .ok (.aload_n 0, 1) := by decide +kernel
theorem dX12_strongest_56 : decode cX12_strongest 56 = .ok (.getfield 59, 3) := by decide +kernel
theorem dX12_strongest_59 : decode cX12_strongest 59 = .ok (.iconst 0, 1) := by decide +kernel
theorem dX12_strongest_60 : decode cX12_strongest 60 = .ok (.iload_n 1, 1) := by decide +kernel
theorem dX12_strongest_61 : decode cX12_strongest 61 = .ok (.iload_n 3, 1) := by decide +kernel
theorem dX12_strongest_62 : decode cX12_strongest 62 = .ok (.invokestatic 319, 3) := by decide +kernel
theorem dX12_strongest_65 : decode cX12_strongest 65 = .ok (.iaload, 1) := by decide +kernel
theorem dX12_strongest_66 : decode cX12_strongest 66 = .ok (.if_icmp .le 8, 3) := by decide +kernel
theorem dX12_strongest_69 : decode cX12_strongest 69 = .ok (.iload 4, 2) := by decide +kernel
theorem dX12_strongest_71 : decode cX12_strongest 71 = .ok (.goto 4, 3) := by decide +kernel
theorem dX12_strongest_74 : decode cX12_strongest 74 = .ok (.iload_n 3, 1) := by decide +kernel
theorem dX12_strongest_75 : decode cX12_strongest 75 = .ok (.istore_n 3, 1) := by decide +kernel
theorem dX12_strongest_76 : decode cX12_strongest 76 = .ok (.iinc 4 1, 3) := by decide +kernel
theorem dX12_strongest_79 : decode cX12_strongest 79 = .ok (.goto (-43), 3) := by decide +kernel
theorem dX12_strongest_82 : decode cX12_strongest 82 = .ok (.iload_n 2, 1) := by decide +kernel
theorem dX12_strongest_83 : decode cX12_strongest 83 = .ok (.ifCond .ne 7, 3) := by decide +kernel
theorem dX12_strongest_86 : decode cX12_strongest 86 = .ok (.iload_n 3, 1) := by decide +kernel
theorem dX12_strongest_87 : decode cX12_strongest 87 = .ok (.goto 14, 3) := by decide +kernel
theorem dX12_strongest_90 : decode cX12_strongest 90 = .ok (.aload_n 0, 1) := by decide +kernel
theorem dX12_strongest_91 : decode cX12_strongest 91 = .ok (.getfield 59, 3) := by decide +kernel
theorem dX12_strongest_94 : decode cX12_strongest 94 = .ok (.iconst 0, 1) := by decide +kernel
theorem dX12_strongest_95 : decode cX12_strongest 95 = .ok (.iload_n 1, 1) := by decide +kernel
theorem dX12_strongest_96 : decode cX12_strongest 96 = .ok (.iload_n 3, 1) := by decide +kernel
theorem dX12_strongest_97 : decode cX12_strongest 97 = .ok (.invokestatic 319, 3) := by decide +kernel
theorem dX12_strongest_100 : decode cX12_strongest 100 = .ok (.iaload, 1) := by decide +kernel
theorem dX12_strongest_101 : decode cX12_strongest 101 = .ok (.ireturn, 1) := by decide +kernel
theorem dX12_isSwing_0 : decode cX12_isSwing 0 = .ok (.iload_n 2, 1) := by decide +kernel
theorem dX12_isSwing_1 : decode cX12_isSwing 1 = .ok (.iload_n 3, 1) := by decide +kernel
theorem dX12_isSwing_2 : decode cX12_isSwing 2 = .ok (.ishr, 1) := by decide +kernel
theorem dX12_isSwing_3 : decode cX12_isSwing 3 = .ok (.iconst 1, 1) := by decide +kernel
theorem dX12_isSwing_4 : decode cX12_isSwing 4 = .ok (.iand, 1) := by decide +kernel
theorem dX12_isSwing_5 : decode cX12_isSwing 5 = .ok (.ifCond .ne 33, 3) := by decide +kernel
theorem dX12_isSwing_8 : decode cX12_isSwing 8 = .ok (.aload_n 0, 1) := by decide +kernel
theorem dX12_isSwing_9 : decode cX12_isSwing 9 = .ok (.iload_n 1, 1) := by decide +kernel
theorem dX12_isSwing_10 : decode cX12_isSwing 10 = .ok (.iload_n 2, 1) := by decide +kernel
theorem dX12_isSwing_11 : decode cX12_isSwing 11 = .ok (.invokevirtual 421, 3) := by decide +kernel
theorem dX12_isSwing_14 : decode cX12_isSwing 14 = .ok (.iload 4, 2) := by decide +kernel
theorem dX12_isSwing_16 : decode cX12_isSwing 16 = .ok (.if_icmp .ge 22, 3) := by decide +kernel
theorem dX12_isSwing_19 : decode cX12_isSwing 19 = .ok (.aload_n 0, 1) := by decide +kernel
theorem dX12_isSwing_20 : decode cX12_isSwing 20 = .ok (.iload_n 1, 1) := by decide +kernel
theorem dX12_isSwing_21 : decode cX12_isSwing 21 = .ok (.iload_n 2, 1) := by decide +kernel
theorem dX12_isSwing_22 : decode cX12_isSwing 22 = .ok (.iconst 1, 1) := by decide +kernel
theorem dX12_isSwing_23 : decode cX12_isSwing 23 = .ok (.iload_n 3, 1) := by decide +kernel
theorem dX12_isSwing_24 : decode cX12_isSwing 24 = .ok (.ishl, 1) := by decide +kernel
theorem dX12_isSwing_25 : decode cX12_isSwing 25 = .ok (.ior, 1) := by decide +kernel
theorem dX12_isSwing_26 : decode cX12_isSwing 26 = .ok (.invokevirtual 421, 3) := by decide +kernel
theorem dX12_isSwing_29 : decode cX12_isSwing 29 = .ok (.iload 4, 2) := by decide +kernel
theorem dX12_isSwing_31 : decode cX12_isSwing 31 = .ok (.if_icmp .lt 7, 3) := by decide +kernel
theorem dX12_isSwing_34 : decode cX12_isSwing 34 = .ok (.iconst 1, 1) := by decide +kernel
theorem dX12_isSwing_35 : decode cX12_isSwing 35 = .ok (.goto 4, 3) := by decide +kernel
theorem dX12_isSwing_38 : decode cX12_isSwing 38 = .ok (.iconst 0, 1) := by decide +kernel
theorem dX12_isSwing_39 : decode cX12_isSwing 39 = .ok (.ireturn, 1) := by decide +kernel
theorem dX12_termGoes_0 : decode cX12_termGoes 0 = .ok (.aload_n 0, 1) := by decide +kernel
theorem dX12_termGoes_1 : decode cX12_termGoes 1 = .ok (.invokevirtual 301, 3) := by decide +kernel
theorem dX12_termGoes_4 : decode cX12_termGoes 4 = .ok (.aload_n 0, 1) := by decide +kernel
theorem dX12_termGoes_5 : decode cX12_termGoes 5 = .ok (.iload_n 1, 1) := by decide +kernel
theorem dX12_termGoes_6 : decode cX12_termGoes 6 = .ok (.putfield 450, 3) := by decide +kernel
theorem dX12_termGoes_9 : decode cX12_termGoes 9 = .ok (.iconst 0, 1) := by decide +kernel
theorem dX12_termGoes_10 : decode cX12_termGoes 10 = .ok (.istore 4, 2) := by decide +kernel
theorem dX12_termGoes_12 : decode cX12_termGoes 12 = .ok (.iload 4, 2) := by decide +kernel
theorem dX12_termGoes_14 : decode cX12_termGoes 14 = .ok (.iload_n 3, 1) := by decide +kernel
theorem dX12_termGoes_15 : decode cX12_termGoes 15 = .ok (.if_icmp .ge 118, 3) := by decide +kernel
theorem dX12_termGoes_18 : decode cX12_termGoes 18 = .ok (.aload_n 0, 1) := by decide +kernel
theorem dX12_termGoes_19 : decode cX12_termGoes 19 = .ok (.getfield 150, 3) := by decide +kernel
theorem dX12_termGoes_22 : decode cX12_termGoes 22 = .ok (.ifCond .le 101, 3) := by decide +kernel
theorem dX12_termGoes_25 : decode cX12_termGoes 25 = .ok (.aload_n 0, 1) := by decide +kernel
theorem dX12_termGoes_26 : decode cX12_termGoes 26 = .ok (.getfield 153, 3) := by decide +kernel
theorem dX12_termGoes_29 : decode cX12_termGoes 29 = .ok (.ifCond .le 94, 3) := by decide +kernel
theorem dX12_termGoes_32 : decode cX12_termGoes 32 = .ok (.aload_n 0, 1) := by decide +kernel
theorem dX12_termGoes_33 : decode cX12_termGoes 33 = .ok (.aload_n 0, 1) := by decide +kernel
theorem dX12_termGoes_34 : decode cX12_termGoes 34 = .ok (.getfield 150, 3) := by decide +kernel
theorem dX12_termGoes_37 : decode cX12_termGoes 37 = .ok (.invokevirtual 454, 3) := by decide +kernel
theorem dX12_termGoes_40 : decode cX12_termGoes 40 = .ok (.istore 5, 2) := by decide +kernel
theorem dX12_termGoes_42 : decode cX12_termGoes 42 = .ok (.aload_n 0, 1) := by decide +kernel
theorem dX12_termGoes_43 : decode cX12_termGoes 43 = .ok (.aload_n 0, 1) := by decide +kernel
theorem dX12_termGoes_44 : decode cX12_termGoes 44 = .ok (.getfield 153, 3) := by decide +kernel
theorem dX12_termGoes_47 : decode cX12_termGoes 47 = .ok (.invokevirtual 454, 3) := by decide +kernel
theorem dX12_termGoes_50 : decode cX12_termGoes 50 = .ok (.istore 6, 2) := by decide +kernel
theorem dX12_termGoes_52 : decode cX12_termGoes 52 = .ok (.aload_n 0, 1) := by decide +kernel
theorem dX12_termGoes_53 : decode cX12_termGoes 53 = .ok (.iload 5, 2) := by decide +kernel
theorem dX12_termGoes_55 : decode cX12_termGoes 55 = .ok (.iload 6, 2) := by decide +kernel
theorem dX12_termGoes_57 : decode cX12_termGoes 57 = .ok (.invokevirtual 345, 3) := by decide +kernel
theorem dX12_termGoes_60 : decode cX12_termGoes 60 = .ok (.ifCond .ne 12, 3) := by decide +kernel
theorem dX12_termGoes_63 : decode cX12_termGoes 63 = .ok (.aload_n 0, 1) := by decide +kernel
theorem dX12_termGoes_64 : decode cX12_termGoes 64 = .ok (.iload 5, 2) := by decide +kernel
theorem dX12_termGoes_66 : decode cX12_termGoes 66 = .ok (.iload 6, 2) := by decide +kernel
theorem dX12_termGoes_68 : decode cX12_termGoes 68 = .ok (.invokevirtual 349, 3) := by decide +kernel
theorem dX12_termGoes_71 : decode cX12_termGoes 71 = .ok (.pop, 1) := by decide +kernel
theorem dX12_termGoes_72 : decode cX12_termGoes 72 = .ok (.aload_n 0, 1) := by decide +kernel
theorem dX12_termGoes_73 : decode cX12_termGoes 73 = .ok (.bipush 16, 2) := by decide +kernel
theorem dX12_termGoes_75 : decode cX12_termGoes 75 = .ok (.invokevirtual 454, 3) := by decide +kernel
theorem dX12_termGoes_78 : decode cX12_termGoes 78 = .ok (.iload_n 2, 1) := by decide +kernel
theorem dX12_termGoes_79 : decode cX12_termGoes 79 = .ok (.if_icmp .ge 44, 3) := by decide +kernel
theorem dX12_termGoes_82 : decode cX12_termGoes 82 = .ok (.aload_n 0, 1) := by decide +kernel
theorem dX12_termGoes_83 : decode cX12_termGoes 83 = .ok (.aload_n 0, 1) := by decide +kernel
theorem dX12_termGoes_84 : decode cX12_termGoes 84 = .ok (.getfield 150, 3) := by decide +kernel
theorem dX12_termGoes_87 : decode cX12_termGoes 87 = .ok (.invokevirtual 454, 3) := by decide +kernel
theorem dX12_termGoes_90 : decode cX12_termGoes 90 = .ok (.istore 7, 2) := by decide +kernel
theorem dX12_termGoes_92 : decode cX12_termGoes 92 = .ok (.aload_n 0, 1) := by decide +kernel
theorem dX12_termGoes_93 : decode cX12_termGoes 93 = .ok (.bipush 7, 2) := by decide +kernel
theorem dX12_termGoes_95 : decode cX12_termGoes 95 = .ok (.invokevirtual 454, 3) := by decide +kernel
theorem dX12_termGoes_98 : decode cX12_termGoes 98 = .ok (.istore 8, 2) := by decide +kernel
theorem dX12_termGoes_100 : decode cX12_termGoes 100 = .ok (.aload_n 0, 1) := by decide +kernel
theorem dX12_termGoes_101 : decode cX12_termGoes 101 = .ok (.iconst 0, 1) := by decide +kernel
theorem dX12_termGoes_102 : decode cX12_termGoes 102 = .ok (.iload 7, 2) := by decide +kernel
theorem dX12_termGoes_104 : decode cX12_termGoes 104 = .ok (.iload 8, 2) := by decide +kernel
theorem dX12_termGoes_106 : decode cX12_termGoes 106 = .ok (.invokestatic 319, 3) := by decide +kernel
theorem dX12_termGoes_109 : decode cX12_termGoes 109 = .ok (.bipush 126, 2) := by decide +kernel
theorem dX12_termGoes_111 : decode cX12_termGoes 111 = .ok (.iload 7, 2) := by decide +kernel
theorem dX12_termGoes_113 : decode cX12_termGoes 113 = .ok (.iload 8, 2) := by decide +kernel
theorem dX12_termGoes_115 : decode cX12_termGoes 115 = .ok (.invokestatic 319, 3) := by decide +kernel
theorem dX12_termGoes_118 : decode cX12_termGoes 118 = .ok (.iconst 1, 1) := by decide +kernel
theorem dX12_termGoes_119 : decode cX12_termGoes 119 = .ok (.invokevirtual 352, 3) := by decide +kernel
theorem dX12_termGoes_122 : decode cX12_termGoes 122 = .ok (.pop, 1) := by decide +kernel
theorem dX12_termGoes_123 : decode cX12_termGoes 123 = .ok (.aload_n 0, 1) := by decide +kernel
theorem dX12_termGoes_124 : decode cX12_termGoes 124 = .ok (.invokevirtual 359, 3) := by decide +kernel
theorem dX12_termGoes_127 : decode cX12_termGoes 127 = .ok (.iinc 4 1, 3) := by decide +kernel
theorem dX12_termGoes_130 : decode cX12_termGoes 130 = .ok (.goto (-118), 3) := by decide +kernel
theorem dX12_termGoes_133 : decode cX12_termGoes 133 = .ok (.return_, 1) := by decide +kernel
theorem dX12_atPlace_0 : decode cX12_atPlace 0 = .ok (.iconst 0, 1) := by decide +kernel
theorem dX12_atPlace_1 : decode cX12_atPlace 1 = .ok (.istore_n 2, 1) := by decide +kernel
theorem dX12_atPlace_2 : decode cX12_atPlace 2 = .ok (.iconst 0, 1) := by decide +kernel
theorem dX12_atPlace_3 : decode cX12_atPlace 3 = .ok (.istore_n 3, 1) := by decide +kernel
theorem dX12_atPlace_4 : decode cX12_atPlace 4 = .ok (.iload_n 3, 1) := by decide +kernel
theorem dX12_atPlace_5 : decode cX12_atPlace 5 = .ok (.bipush 42, 2) := by decide +kernel
theorem dX12_atPlace_7 : decode cX12_atPlace 7 = .ok (.if_icmp .ge 38, 3) := by decide +kernel
theorem dX12_atPlace_10 : decode cX12_atPlace 10 = .ok (.iload_n 2, 1) := by decide +kernel
theorem dX12_atPlace_11 : decode cX12_atPlace 11 = .ok (.aload_n 0, 1) := by decide +kernel
theorem dX12_atPlace_12 : decode cX12_atPlace 12 = .ok (.getfield 62, 3) := by decide +kernel
theorem dX12_atPlace_15 : decode cX12_atPlace 15 = .ok (.bipush 84, 2) := by decide +kernel
theorem dX12_atPlace_17 : decode cX12_atPlace 17 = .ok (.iload_n 3, 1) := by decide +kernel
theorem dX12_atPlace_18 : decode cX12_atPlace 18 = .ok (.iadd, 1) := by decide +kernel
theorem dX12_atPlace_19 : decode cX12_atPlace 19 = .ok (.iaload, 1) := by decide +kernel
theorem dX12_atPlace_20 : decode cX12_atPlace 20 = .ok (.iload_n 1, 1) := by decide +kernel
theorem dX12_atPlace_21 : decode cX12_atPlace 21 = .ok (.if_icmp .ne 15, 3) := by decide +kernel
theorem dX12_atPlace_24 : decode cX12_atPlace 24 = .ok (.aload_n 0, 1) := by decide +kernel
theorem dX12_atPlace_25 : decode cX12_atPlace 25 = .ok (.getfield 62, 3) := by decide +kernel
theorem dX12_atPlace_28 : decode cX12_atPlace 28 = .ok (.bipush 42, 2) := by decide +kernel
theorem dX12_atPlace_30 : decode cX12_atPlace 30 = .ok (.iload_n 3, 1) := by decide +kernel
theorem dX12_atPlace_31 : decode cX12_atPlace 31 = .ok (.iadd, 1) := by decide +kernel
theorem dX12_atPlace_32 : decode cX12_atPlace 32 = .ok (.iaload, 1) := by decide +kernel
theorem dX12_atPlace_33 : decode cX12_atPlace 33 = .ok (.goto 4, 3) := by decide +kernel
theorem dX12_atPlace_36 : decode cX12_atPlace 36 = .ok (.iconst 0, 1) := by decide +kernel
theorem dX12_atPlace_37 : decode cX12_atPlace 37 = .ok (.iadd, 1) := by decide +kernel
theorem dX12_atPlace_38 : decode cX12_atPlace 38 = .ok (.istore_n 2, 1) := by decide +kernel
theorem dX12_atPlace_39 : decode cX12_atPlace 39 = .ok (.iinc 3 1, 3) := by decide +kernel
theorem dX12_atPlace_42 : decode cX12_atPlace 42 = .ok (.goto (-38), 3) := by decide +kernel
theorem dX12_atPlace_45 : decode cX12_atPlace 45 = .ok (.iload_n 2, 1) := by decide +kernel
theorem dX12_atPlace_46 : decode cX12_atPlace 46 = .ok (.ireturn, 1) := by decide +kernel
theorem dX12_broadest_0 : decode cX12_broadest 0 = .ok (.aload_n 0, 1) := by decide +kernel
theorem dX12_broadest_1 : decode cX12_broadest 1 = .ok (.iconst 0, 1) := by decide +kernel
theorem dX12_broadest_2 : decode cX12_broadest 2 = .ok (.putfield 3, 3) := by decide +kernel
theorem dX12_broadest_5 : decode cX12_broadest 5 = .ok (.aload_n 0, 1) := by decide +kernel
theorem dX12_broadest_6 : decode cX12_broadest 6 = .ok (.iload_n 1, 1) := by decide +kernel
theorem dX12_broadest_7 : decode cX12_broadest 7 = .ok (.iconst 0, 1) := by decide +kernel
theorem dX12_broadest_8 : decode cX12_broadest 8 = .ok (.iconst 1, 1) := by decide +kernel
theorem dX12_broadest_9 : decode cX12_broadest 9 = .ok (.invokestatic 368, 3) := by decide +kernel
theorem dX12_broadest_12 : decode cX12_broadest 12 = .ok (.iconst 1, 1) := by decide +kernel
theorem dX12_broadest_13 : decode cX12_broadest 13 = .ok (.iconst 1, 1) := by decide +kernel
theorem dX12_broadest_14 : decode cX12_broadest 14 = .ok (.invokevirtual 190, 3) := by decide +kernel
theorem dX12_broadest_17 : decode cX12_broadest 17 = .ok (.ifCond .ne 5, 3) := by decide +kernel
theorem dX12_broadest_20 : decode cX12_broadest 20 = .ok (.iconst 0, 1) := by decide +kernel
theorem dX12_broadest_21 : decode cX12_broadest 21 = .ok (.ireturn, 1) := by decide +kernel
theorem dX12_broadest_22 : decode cX12_broadest 22 = .ok (.aload_n 0, 1) := by decide +kernel
theorem dX12_broadest_23 : decode cX12_broadest 23 = .ok (.invokevirtual 301, 3) := by decide +kernel
theorem dX12_broadest_26 : decode cX12_broadest 26 = .ok (.iconst (-1), 1) := by decide +kernel
theorem dX12_broadest_27 : decode cX12_broadest 27 = .ok (.istore_n 2, 1) := by decide +kernel
theorem dX12_broadest_28 : decode cX12_broadest 28 = .ok (.iconst 0, 1) := by decide +kernel
theorem dX12_broadest_29 : decode cX12_broadest 29 = .ok (.istore_n 3, 1) := by decide +kernel
theorem dX12_broadest_30 : decode cX12_broadest 30 = .ok (.iload_n 3, 1) := by decide +kernel
theorem dX12_broadest_31 : decode cX12_broadest 31 = .ok (.aload_n 0, 1) := by decide +kernel
theorem dX12_broadest_32 : decode cX12_broadest 32 = .ok (.getfield 150, 3) := by decide +kernel
theorem dX12_broadest_35 : decode cX12_broadest 35 = .ok (.if_icmp .ge 29, 3) := by decide +kernel
theorem dX12_broadest_38 : decode cX12_broadest 38 = .ok (.iload_n 2, 1) := by decide +kernel
theorem dX12_broadest_39 : decode cX12_broadest 39 = .ok (.iconst (-1), 1) := by decide +kernel
theorem dX12_broadest_40 : decode cX12_broadest 40 = .ok (.if_icmp .eq 16, 3) := by decide +kernel
theorem dX12_broadest_43 : decode cX12_broadest 43 = .ok (.aload_n 0, 1) := by decide +kernel
theorem dX12_broadest_44 : decode cX12_broadest 44 = .ok (.iload_n 3, 1) := by decide +kernel
theorem dX12_broadest_45 : decode cX12_broadest 45 = .ok (.invokevirtual 328, 3) := by decide +kernel
theorem dX12_broadest_48 : decode cX12_broadest 48 = .ok (.aload_n 0, 1) := by decide +kernel
theorem dX12_broadest_49 : decode cX12_broadest 49 = .ok (.iload_n 2, 1) := by decide +kernel
theorem dX12_broadest_50 : decode cX12_broadest 50 = .ok (.invokevirtual 328, 3) := by decide +kernel
theorem dX12_broadest_53 : decode cX12_broadest 53 = .ok (.if_icmp .le 5, 3) := by decide +kernel
theorem dX12_broadest_56 : decode cX12_broadest 56 = .ok (.iload_n 3, 1) := by decide +kernel
theorem dX12_broadest_57 : decode cX12_broadest 57 = .ok (.istore_n 2, 1) := by decide +kernel
theorem dX12_broadest_58 : decode cX12_broadest 58 = .ok (.iinc 3 1, 3) := by decide +kernel
theorem dX12_broadest_61 : decode cX12_broadest 61 = .ok (.goto (-31), 3) := by decide +kernel
theorem dX12_broadest_64 : decode cX12_broadest 64 = .ok (.iload_n 1, 1) := by decide +kernel
theorem dX12_broadest_65 : decode cX12_broadest 65 = .ok (.ifCond .eq 8, 3) := by decide +kernel
theorem dX12_broadest_68 : decode cX12_broadest 68 = .ok (.iload_n 2, 1) := by decide +kernel
theorem dX12_broadest_69 : decode cX12_broadest 69 = .ok (.iconst (-1), 1) := by decide +kernel
theorem dX12_broadest_70 : decode cX12_broadest 70 = .ok (.if_icmp .ne 7, 3) := by decide +kernel
theorem dX12_broadest_73 : decode cX12_broadest 73 = .ok (.iload_n 2, 1) := by decide +kernel
theorem dX12_broadest_74 : decode cX12_broadest 74 = .ok (.goto 8, 3) := by decide +kernel
theorem dX12_broadest_77 : decode cX12_broadest 77 = .ok (.aload_n 0, 1) := by decide +kernel
theorem dX12_broadest_78 : decode cX12_broadest 78 = .ok (.iload_n 2, 1) := by decide +kernel
theorem dX12_broadest_79 : decode cX12_broadest 79 = .ok (.invokevirtual 328, 3) := by decide +kernel
theorem dX12_broadest_82 : decode cX12_broadest 82 = .ok (.ireturn, 1) := by decide +kernel
theorem dX12_isPart_0 : decode cX12_isPart 0 = .ok (.iload_n 0, 1) := by decide +kernel
theorem dX12_isPart_1 : decode cX12_isPart 1 = .ok (.ifCond .lt 13, 3) := by decide +kernel
theorem dX12_isPart_4 : decode cX12_isPart 4 = .ok (.iload_n 0, 1) := by decide +kernel
theorem dX12_isPart_5 : decode cX12_isPart 5 = .ok (.bipush 7, 2) := by decide +kernel
theorem dX12_isPart_7 : decode cX12_isPart 7 = .ok (.if_icmp .ge 7, 3) := by decide +kernel
theorem dX12_isPart_10 : decode cX12_isPart 10 = .ok (.iconst 1, 1) := by decide +kernel
theorem dX12_isPart_11 : decode cX12_isPart 11 = .ok (.goto 4, 3) := by decide +kernel
theorem dX12_isPart_14 : decode cX12_isPart 14 = .ok (.iconst 0, 1) := by decide +kernel
theorem dX12_isPart_15 : decode cX12_isPart 15 = .ok (.ireturn, 1) := by decide +kernel
theorem dX12_fits_0 : decode cX12_fits 0 = .ok (.aload_n 0, 1) := by decide +kernel
theorem dX12_fits_1 : decode cX12_fits 1 = .ok (.iconst 0, 1) := by decide +kernel
theorem dX12_fits_2 : decode cX12_fits 2 = .ok (.putfield 3, 3) := by decide +kernel
theorem dX12_fits_5 : decode cX12_fits 5 = .ok (.aload_n 0, 1) := by decide +kernel
theorem dX12_fits_6 : decode cX12_fits 6 = .ok (.iload_n 1, 1) := by decide +kernel
theorem dX12_fits_7 : decode cX12_fits 7 = .ok (.iconst 0, 1) := by decide +kernel
theorem dX12_fits_8 : decode cX12_fits 8 = .ok (.iconst 1, 1) := by decide +kernel
theorem dX12_fits_9 : decode cX12_fits 9 = .ok (.invokestatic 368, 3) := by decide +kernel
theorem dX12_fits_12 : decode cX12_fits 12 = .ok (.iconst 1, 1) := by decide +kernel
theorem dX12_fits_13 : decode cX12_fits 13 = .ok (.iconst 1, 1) := by decide +kernel
theorem dX12_fits_14 : decode cX12_fits 14 = .ok (.invokevirtual 190, 3) := by decide +kernel
theorem dX12_fits_17 : decode cX12_fits 17 = .ok (.ifCond .ne 5, 3) := by decide +kernel
theorem dX12_fits_20 : decode cX12_fits 20 = .ok (.iconst 0, 1) := by decide +kernel
theorem dX12_fits_21 : decode cX12_fits 21 = .ok (.ireturn, 1) := by decide +kernel
theorem dX12_fits_22 : decode cX12_fits 22 = .ok (.aload_n 0, 1) := by decide +kernel
theorem dX12_fits_23 : decode cX12_fits 23 = .ok (.invokevirtual 412, 3) := by decide +kernel
theorem dX12_fits_26 : decode cX12_fits 26 = .ok (.iload_n 1, 1) := by decide +kernel
theorem dX12_fits_27 : decode cX12_fits 27 = .ok (.ifCond .ne 10, 3) := by decide +kernel
theorem dX12_fits_30 : decode cX12_fits 30 = .ok (.aload_n 0, 1) := by decide +kernel
theorem dX12_fits_31 : decode cX12_fits 31 = .ok (.getfield 409, 3) := by decide +kernel
theorem dX12_fits_34 : decode cX12_fits 34 = .ok (.goto 30, 3) := by decide +kernel
theorem dX12_fits_37 : decode cX12_fits 37 = .ok (.aload_n 0, 1) := by decide +kernel
theorem dX12_fits_38 : decode cX12_fits 38 = .ok (.getfield 409, 3) := by decide +kernel
theorem dX12_fits_41 : decode cX12_fits 41 = .ok (.ifCond .ne 7, 3) := by decide +kernel
theorem dX12_fits_44 : decode cX12_fits 44 = .ok (.iconst (-1), 1) := by decide +kernel
theorem dX12_fits_45 : decode cX12_fits 45 = .ok (.goto 19, 3) := by decide +kernel
theorem dX12_fits_48 : decode cX12_fits 48 = .ok (.bipush 10, 2) := by decide +kernel
theorem dX12_fits_50 : decode cX12_fits 50 = .ok (.aload_n 0, 1) := by decide +kernel
theorem dX12_fits_51 : decode cX12_fits 51 = .ok (.getfield 77, 3) := by decide +kernel
theorem dX12_fits_54 : decode cX12_fits 54 = .ok (.iconst 0, 1) := by decide +kernel
theorem dX12_fits_55 : decode cX12_fits 55 = .ok (.iaload, 1) := by decide +kernel
theorem dX12_fits_56 : decode cX12_fits 56 = .ok (.imul, 1) := by decide +kernel
theorem dX12_fits_57 : decode cX12_fits 57 = .ok (.aload_n 0, 1) := by decide +kernel
theorem dX12_fits_58 : decode cX12_fits 58 = .ok (.getfield 80, 3) := by decide +kernel
theorem dX12_fits_61 : decode cX12_fits 61 = .ok (.iconst 0, 1) := by decide +kernel
theorem dX12_fits_62 : decode cX12_fits 62 = .ok (.iaload, 1) := by decide +kernel
theorem dX12_fits_63 : decode cX12_fits 63 = .ok (.iadd, 1) := by decide +kernel
theorem dX12_fits_64 : decode cX12_fits 64 = .ok (.ireturn, 1) := by decide +kernel
theorem dX12_hasBy_0 : decode cX12_hasBy 0 = .ok (.iload_n 0, 1) := by decide +kernel
theorem dX12_hasBy_1 : decode cX12_hasBy 1 = .ok (.iload_n 1, 1) := by decide +kernel
theorem dX12_hasBy_2 : decode cX12_hasBy 2 = .ok (.if_icmp .ne 7, 3) := by decide +kernel
theorem dX12_hasBy_5 : decode cX12_hasBy 5 = .ok (.iconst 0, 1) := by decide +kernel
theorem dX12_hasBy_6 : decode cX12_hasBy 6 = .ok (.goto 12, 3) := by decide +kernel
theorem dX12_hasBy_9 : decode cX12_hasBy 9 = .ok (.iload_n 0, 1) := by decide +kernel
theorem dX12_hasBy_10 : decode cX12_hasBy 10 = .ok (.ifCond .ne 7, 3) := by decide +kernel
theorem dX12_hasBy_13 : decode cX12_hasBy 13 = .ok (.iload_n 2, 1) := by decide +kernel
theorem dX12_hasBy_14 : decode cX12_hasBy 14 = .ok (.goto 4, 3) := by decide +kernel
theorem dX12_hasBy_17 : decode cX12_hasBy 17 = .ok (.iload_n 3, 1) := by decide +kernel
theorem dX12_hasBy_18 : decode cX12_hasBy 18 = .ok (.ireturn, 1) := by decide +kernel
theorem dX12_isGlass_0 : decode cX12_isGlass 0 = .ok (.aload_n 0, 1) := by decide +kernel
theorem dX12_isGlass_1 : decode cX12_isGlass 1 = .ok (.iload_n 1, 1) := by decide +kernel
theorem dX12_isGlass_2 : decode cX12_isGlass 2 = .ok (.iconst 0, 1) := by decide +kernel
theorem dX12_isGlass_3 : decode cX12_isGlass 3 = .ok (.aload_n 0, 1) := by decide +kernel
theorem dX12_isGlass_4 : decode cX12_isGlass 4 = .ok (.getfield 153, 3) := by decide +kernel
theorem dX12_isGlass_7 : decode cX12_isGlass 7 = .ok (.iconst 1, 1) := by decide +kernel
theorem dX12_isGlass_8 : decode cX12_isGlass 8 = .ok (.isub, 1) := by decide +kernel
theorem dX12_isGlass_9 : decode cX12_isGlass 9 = .ok (.invokestatic 368, 3) := by decide +kernel
theorem dX12_isGlass_12 : decode cX12_isGlass 12 = .ok (.iload_n 2, 1) := by decide +kernel
theorem dX12_isGlass_13 : decode cX12_isGlass 13 = .ok (.iconst 0, 1) := by decide +kernel
theorem dX12_isGlass_14 : decode cX12_isGlass 14 = .ok (.invokevirtual 190, 3) := by decide +kernel
theorem dX12_isGlass_17 : decode cX12_isGlass 17 = .ok (.ireturn, 1) := by decide +kernel
theorem dX12_size_0 : decode cX12_size 0 = .ok (.iload_n 0, 1) := by decide +kernel
theorem dX12_size_1 : decode cX12_size 1 = .ok (.ifCond .ge 8, 3) := by decide +kernel
theorem dX12_size_4 : decode cX12_size 4 = .ok (.iload_n 0, 1) := by decide +kernel
theorem dX12_size_5 : decode cX12_size 5 = .ok (.ineg, 1) := by decide +kernel
theorem dX12_size_6 : decode cX12_size 6 = .ok (.goto 4, 3) := by decide +kernel
theorem dX12_size_9 : decode cX12_size 9 = .ok (.iload_n 0, 1) := by decide +kernel
theorem dX12_size_10 : decode cX12_size 10 = .ok (.ireturn, 1) := by decide +kernel
theorem dX12_glass_0 : decode cX12_glass 0 = .ok (.aload_n 0, 1) := by decide +kernel
theorem dX12_glass_1 : decode cX12_glass 1 = .ok (.iconst 0, 1) := by decide +kernel
theorem dX12_glass_2 : decode cX12_glass 2 = .ok (.putfield 3, 3) := by decide +kernel
theorem dX12_glass_5 : decode cX12_glass 5 = .ok (.aload_n 0, 1) := by decide +kernel
theorem dX12_glass_6 : decode cX12_glass 6 = .ok (.iload_n 1, 1) := by decide +kernel
theorem dX12_glass_7 : decode cX12_glass 7 = .ok (.iconst 1, 1) := by decide +kernel
theorem dX12_glass_8 : decode cX12_glass 8 = .ok (.invokevirtual 389, 3) := by decide +kernel
theorem dX12_glass_11 : decode cX12_glass 11 = .ok (.ifCond .eq 18, 3) := by decide +kernel
theorem dX12_glass_14 : decode cX12_glass 14 = .ok (.aload_n 0, 1) := by decide +kernel
theorem dX12_glass_15 : decode cX12_glass 15 = .ok (.iload_n 2, 1) := by decide +kernel
theorem dX12_glass_16 : decode cX12_glass 16 = .ok (.iconst 0, 1) := by decide +kernel
theorem dX12_glass_17 : decode cX12_glass 17 = .ok (.iconst 1, 1) := by decide +kernel
theorem dX12_glass_18 : decode cX12_glass 18 = .ok (.invokestatic 368, 3) := by decide +kernel
theorem dX12_glass_21 : decode cX12_glass 21 = .ok (.iconst 2, 1) := by decide +kernel
theorem dX12_glass_22 : decode cX12_glass 22 = .ok (.iconst 1, 1) := by decide +kernel
theorem dX12_glass_23 : decode cX12_glass 23 = .ok (.invokevirtual 190, 3) := by decide +kernel
theorem dX12_glass_26 : decode cX12_glass 26 = .ok (.ifCond .ne 5, 3) := by decide +kernel
theorem dX12_glass_29 : decode cX12_glass 29 = .ok (.iconst 0, 1) := by decide +kernel
theorem dX12_glass_30 : decode cX12_glass 30 = .ok (.ireturn, 1) := by decide +kernel
theorem dX12_glass_31 : decode cX12_glass 31 = .ok (.aload_n 0, 1) := by decide +kernel
theorem dX12_glass_32 : decode cX12_glass 32 = .ok (.getfield 32, 3) := by decide +kernel
theorem dX12_glass_35 : decode cX12_glass 35 = .ok (.iconst 2, 1) := by decide +kernel
theorem dX12_glass_36 : decode cX12_glass 36 = .ok (.iload_n 1, 1) := by decide +kernel
theorem dX12_glass_37 : decode cX12_glass 37 = .ok (.imul, 1) := by decide +kernel
theorem dX12_glass_38 : decode cX12_glass 38 = .ok (.iload_n 2, 1) := by decide +kernel
theorem dX12_glass_39 : decode cX12_glass 39 = .ok (.iadd, 1) := by decide +kernel
theorem dX12_glass_40 : decode cX12_glass 40 = .ok (.iaload, 1) := by decide +kernel
theorem dX12_glass_41 : decode cX12_glass 41 = .ok (.ireturn, 1) := by decide +kernel
theorem dX12_part_0 : decode cX12_part 0 = .ok (.aload_n 0, 1) := by decide +kernel
theorem dX12_part_1 : decode cX12_part 1 = .ok (.iconst 0, 1) := by decide +kernel
theorem dX12_part_2 : decode cX12_part 2 = .ok (.putfield 3, 3) := by decide +kernel
theorem dX12_part_5 : decode cX12_part 5 = .ok (.aload_n 0, 1) := by decide +kernel
theorem dX12_part_6 : decode cX12_part 6 = .ok (.iload_n 1, 1) := by decide +kernel
theorem dX12_part_7 : decode cX12_part 7 = .ok (.iconst 1, 1) := by decide +kernel
theorem dX12_part_8 : decode cX12_part 8 = .ok (.invokevirtual 377, 3) := by decide +kernel
theorem dX12_part_11 : decode cX12_part 11 = .ok (.ifCond .eq 33, 3) := by decide +kernel
theorem dX12_part_14 : decode cX12_part 14 = .ok (.aload_n 0, 1) := by decide +kernel
theorem dX12_part_15 : decode cX12_part 15 = .ok (.iload_n 2, 1) := by decide +kernel
theorem dX12_part_16 : decode cX12_part 16 = .ok (.invokestatic 386, 3) := by decide +kernel
theorem dX12_part_19 : decode cX12_part 19 = .ok (.ifCond .eq 16, 3) := by decide +kernel
theorem dX12_part_22 : decode cX12_part 22 = .ok (.iload_n 3, 1) := by decide +kernel
theorem dX12_part_23 : decode cX12_part 23 = .ok (.iconst 0, 1) := by decide +kernel
theorem dX12_part_24 : decode cX12_part 24 = .ok (.iconst 3, 1) := by decide +kernel
theorem dX12_part_25 : decode cX12_part 25 = .ok (.invokestatic 368, 3) := by decide +kernel
theorem dX12_part_28 : decode cX12_part 28 = .ok (.ifCond .eq 7, 3) := by decide +kernel
theorem dX12_part_31 : decode cX12_part 31 = .ok (.iconst 1, 1) := by decide +kernel
theorem dX12_part_32 : decode cX12_part 32 = .ok (.goto 4, 3) := by decide +kernel
theorem dX12_part_35 : decode cX12_part 35 = .ok (.iconst 0, 1) := by decide +kernel
theorem dX12_part_36 : decode cX12_part 36 = .ok (.iconst 2, 1) := by decide +kernel
theorem dX12_part_37 : decode cX12_part 37 = .ok (.iconst 1, 1) := by decide +kernel
theorem dX12_part_38 : decode cX12_part 38 = .ok (.invokevirtual 190, 3) := by decide +kernel
theorem dX12_part_41 : decode cX12_part 41 = .ok (.ifCond .ne 5, 3) := by decide +kernel
theorem dX12_part_44 : decode cX12_part 44 = .ok (.iconst 0, 1) := by decide +kernel
theorem dX12_part_45 : decode cX12_part 45 = .ok (.ireturn, 1) := by decide +kernel
theorem dX12_part_46 : decode cX12_part 46 = .ok (.iload_n 3, 1) := by decide +kernel
theorem dX12_part_47 : decode cX12_part 47 = .ok (.iconst 2, 1) := by decide +kernel
theorem dX12_part_48 : decode cX12_part 48 = .ok (.if_icmp .ne 35, 3) := by decide +kernel
theorem dX12_part_51 : decode cX12_part 51 = .ok (.aload_n 0, 1) := by decide +kernel
theorem dX12_part_52 : decode cX12_part 52 = .ok (.getfield 59, 3) := by decide +kernel
theorem dX12_part_55 : decode cX12_part 55 = .ok (.bipush 42, 2) := by decide +kernel
theorem dX12_part_57 : decode cX12_part 57 = .ok (.iload_n 1, 1) := by decide +kernel
theorem dX12_part_58 : decode cX12_part 58 = .ok (.iload_n 2, 1) := by decide +kernel
theorem dX12_part_59 : decode cX12_part 59 = .ok (.invokestatic 319, 3) := by decide +kernel
theorem dX12_part_62 : decode cX12_part 62 = .ok (.iaload, 1) := by decide +kernel
theorem dX12_part_63 : decode cX12_part 63 = .ok (.ifCond .ne 7, 3) := by decide +kernel
theorem dX12_part_66 : decode cX12_part 66 = .ok (.iconst (-1), 1) := by decide +kernel
theorem dX12_part_67 : decode cX12_part 67 = .ok (.goto 15, 3) := by decide +kernel
theorem dX12_part_70 : decode cX12_part 70 = .ok (.aload_n 0, 1) := by decide +kernel
theorem dX12_part_71 : decode cX12_part 71 = .ok (.getfield 59, 3) := by decide +kernel
theorem dX12_part_74 : decode cX12_part 74 = .ok (.bipush 84, 2) := by decide +kernel
theorem dX12_part_76 : decode cX12_part 76 = .ok (.iload_n 1, 1) := by decide +kernel
theorem dX12_part_77 : decode cX12_part 77 = .ok (.iload_n 2, 1) := by decide +kernel
theorem dX12_part_78 : decode cX12_part 78 = .ok (.invokestatic 319, 3) := by decide +kernel
theorem dX12_part_81 : decode cX12_part 81 = .ok (.iaload, 1) := by decide +kernel
theorem dX12_part_82 : decode cX12_part 82 = .ok (.ireturn, 1) := by decide +kernel
theorem dX12_part_83 : decode cX12_part 83 = .ok (.aload_n 0, 1) := by decide +kernel
theorem dX12_part_84 : decode cX12_part 84 = .ok (.getfield 59, 3) := by decide +kernel
theorem dX12_part_87 : decode cX12_part 87 = .ok (.iload_n 3, 1) := by decide +kernel
theorem dX12_part_88 : decode cX12_part 88 = .ok (.ifCond .ne 7, 3) := by decide +kernel
theorem dX12_part_91 : decode cX12_part 91 = .ok (.iconst 0, 1) := by decide +kernel
theorem dX12_part_92 : decode cX12_part 92 = .ok (.goto 15, 3) := by decide +kernel
theorem dX12_part_95 : decode cX12_part 95 = .ok (.iload_n 3, 1) := by decide +kernel
theorem dX12_part_96 : decode cX12_part 96 = .ok (.iconst 1, 1) := by decide +kernel
theorem dX12_part_97 : decode cX12_part 97 = .ok (.if_icmp .ne 8, 3) := by decide +kernel
theorem dX12_part_100 : decode cX12_part 100 = .ok (.bipush 42, 2) := by decide +kernel
theorem dX12_part_102 : decode cX12_part 102 = .ok (.goto 5, 3) := by decide +kernel
theorem dX12_part_105 : decode cX12_part 105 = .ok (.bipush 126, 2) := by decide +kernel
theorem dX12_part_107 : decode cX12_part 107 = .ok (.iload_n 1, 1) := by decide +kernel
theorem dX12_part_108 : decode cX12_part 108 = .ok (.iload_n 2, 1) := by decide +kernel
theorem dX12_part_109 : decode cX12_part 109 = .ok (.invokestatic 319, 3) := by decide +kernel
theorem dX12_part_112 : decode cX12_part 112 = .ok (.iaload, 1) := by decide +kernel
theorem dX12_part_113 : decode cX12_part 113 = .ok (.ireturn, 1) := by decide +kernel
theorem dX12_place_0 : decode cX12_place 0 = .ok (.aload_n 0, 1) := by decide +kernel
theorem dX12_place_1 : decode cX12_place 1 = .ok (.iconst 0, 1) := by decide +kernel
theorem dX12_place_2 : decode cX12_place 2 = .ok (.putfield 3, 3) := by decide +kernel
theorem dX12_place_5 : decode cX12_place 5 = .ok (.aload_n 0, 1) := by decide +kernel
theorem dX12_place_6 : decode cX12_place 6 = .ok (.iload_n 1, 1) := by decide +kernel
theorem dX12_place_7 : decode cX12_place 7 = .ok (.iconst 0, 1) := by decide +kernel
theorem dX12_place_8 : decode cX12_place 8 = .ok (.aload_n 0, 1) := by decide +kernel
theorem dX12_place_9 : decode cX12_place 9 = .ok (.getfield 156, 3) := by decide +kernel
theorem dX12_place_12 : decode cX12_place 12 = .ok (.iconst 1, 1) := by decide +kernel
theorem dX12_place_13 : decode cX12_place 13 = .ok (.isub, 1) := by decide +kernel
theorem dX12_place_14 : decode cX12_place 14 = .ok (.invokestatic 368, 3) := by decide +kernel
theorem dX12_place_17 : decode cX12_place 17 = .ok (.iconst 1, 1) := by decide +kernel
theorem dX12_place_18 : decode cX12_place 18 = .ok (.iconst 1, 1) := by decide +kernel
theorem dX12_place_19 : decode cX12_place 19 = .ok (.invokevirtual 190, 3) := by decide +kernel
theorem dX12_place_22 : decode cX12_place 22 = .ok (.ifCond .ne 5, 3) := by decide +kernel
theorem dX12_place_25 : decode cX12_place 25 = .ok (.iconst 0, 1) := by decide +kernel
theorem dX12_place_26 : decode cX12_place 26 = .ok (.ireturn, 1) := by decide +kernel
theorem dX12_place_27 : decode cX12_place 27 = .ok (.aload_n 0, 1) := by decide +kernel
theorem dX12_place_28 : decode cX12_place 28 = .ok (.invokevirtual 301, 3) := by decide +kernel
theorem dX12_place_31 : decode cX12_place 31 = .ok (.aload_n 0, 1) := by decide +kernel
theorem dX12_place_32 : decode cX12_place 32 = .ok (.iload_n 1, 1) := by decide +kernel
theorem dX12_place_33 : decode cX12_place 33 = .ok (.invokevirtual 392, 3) := by decide +kernel
theorem dX12_place_36 : decode cX12_place 36 = .ok (.ireturn, 1) := by decide +kernel
theorem dX12_laysFits_0 : decode cX12_laysFits 0 = .ok (.aload_n 0, 1) := by decide +kernel
theorem dX12_laysFits_1 : decode cX12_laysFits 1 = .ok (.iconst 0, 1) := by decide +kernel
theorem dX12_laysFits_2 : decode cX12_laysFits 2 = .ok (.putfield 409, 3) := by decide +kernel
theorem dX12_laysFits_5 : decode cX12_laysFits 5 = .ok (.iconst 0, 1) := by decide +kernel
theorem dX12_laysFits_6 : decode cX12_laysFits 6 = .ok (.istore_n 1, 1) := by decide +kernel
theorem dX12_laysFits_7 : decode cX12_laysFits 7 = .ok (.iload_n 1, 1) := by decide +kernel
theorem dX12_laysFits_8 : decode cX12_laysFits 8 = .ok (.aload_n 0, 1) := by decide +kernel
theorem dX12_laysFits_9 : decode cX12_laysFits 9 = .ok (.getfield 150, 3) := by decide +kernel
theorem dX12_laysFits_12 : decode cX12_laysFits 12 = .ok (.if_icmp .ge 141, 3) := by decide +kernel
theorem dX12_laysFits_15 : decode cX12_laysFits 15 = .ok (.iconst 0, 1) := by decide +kernel
theorem dX12_laysFits_16 : decode cX12_laysFits 16 = .ok (.istore_n 2, 1) := by decide +kernel
theorem dX12_laysFits_17 : decode cX12_laysFits 17 = .ok (.iload_n 2, 1) := by decide +kernel
theorem dX12_laysFits_18 : decode cX12_laysFits 18 = .ok (.aload_n 0, 1) := by decide +kernel
theorem dX12_laysFits_19 : decode cX12_laysFits 19 = .ok (.getfield 153, 3) := by decide +kernel
theorem dX12_laysFits_22 : decode cX12_laysFits 22 = .ok (.if_icmp .ge 125, 3) := by decide +kernel
theorem dX12_laysFits_25 : decode cX12_laysFits 25 = .ok (.aload_n 0, 1) := by decide +kernel
theorem dX12_laysFits_26 : decode cX12_laysFits 26 = .ok (.iload_n 2, 1) := by decide +kernel
theorem dX12_laysFits_27 : decode cX12_laysFits 27 = .ok (.invokevirtual 335, 3) := by decide +kernel
theorem dX12_laysFits_30 : decode cX12_laysFits 30 = .ok (.ifCond .eq 6, 3) := by decide +kernel
theorem dX12_laysFits_33 : decode cX12_laysFits 33 = .ok (.goto 108, 3) := by decide +kernel
theorem dX12_laysFits_36 : decode cX12_laysFits 36 = .ok (.aload_n 0, 1) := by decide +kernel
theorem dX12_laysFits_37 : decode cX12_laysFits 37 = .ok (.invokevirtual 301, 3) := by decide +kernel
theorem dX12_laysFits_40 : decode cX12_laysFits 40 = .ok (.aload_n 0, 1) := by decide +kernel
theorem dX12_laysFits_41 : decode cX12_laysFits 41 = .ok (.iload_n 1, 1) := by decide +kernel
theorem dX12_laysFits_42 : decode cX12_laysFits 42 = .ok (.iload_n 2, 1) := by decide +kernel
theorem dX12_laysFits_43 : decode cX12_laysFits 43 = .ok (.invokevirtual 345, 3) := by decide +kernel
theorem dX12_laysFits_46 : decode cX12_laysFits 46 = .ok (.pop, 1) := by decide +kernel
theorem dX12_laysFits_47 : decode cX12_laysFits 47 = .ok (.iconst 1, 1) := by decide +kernel
theorem dX12_laysFits_48 : decode cX12_laysFits 48 = .ok (.istore_n 3, 1) := by decide +kernel
theorem dX12_laysFits_49 : decode cX12_laysFits 49 = .ok (.iconst 0, 1) := by decide +kernel
theorem dX12_laysFits_50 : decode cX12_laysFits 50 = .ok (.istore 4, 2) := by decide +kernel
theorem dX12_laysFits_52 : decode cX12_laysFits 52 = .ok (.iload 4, 2) := by decide +kernel
theorem dX12_laysFits_54 : decode cX12_laysFits 54 = .ok (.aload_n 0, 1) := by decide +kernel
theorem dX12_laysFits_55 : decode cX12_laysFits 55 = .ok (.getfield 166, 3) := by decide +kernel
theorem dX12_laysFits_58 : decode cX12_laysFits 58 = .ok (.if_icmp .ge 46, 3) := by decide +kernel
theorem dX12_laysFits_61 : decode cX12_laysFits 61 = .ok (.iload_n 3, 1) := by decide +kernel
theorem dX12_laysFits_62 : decode cX12_laysFits 62 = .ok (.ifCond .eq 34, 3) := by decide +kernel
theorem dX12_laysFits_65 : decode cX12_laysFits 65 = .ok (.aload_n 0, 1) := by decide +kernel
theorem dX12_laysFits_66 : decode cX12_laysFits 66 = .ok (.aload_n 0, 1) := by decide +kernel
theorem dX12_laysFits_67 : decode cX12_laysFits 67 = .ok (.getfield 74, 3) := by decide +kernel
theorem dX12_laysFits_70 : decode cX12_laysFits 70 = .ok (.iconst 2, 1) := by decide +kernel
theorem dX12_laysFits_71 : decode cX12_laysFits 71 = .ok (.iload 4, 2) := by decide +kernel
theorem dX12_laysFits_73 : decode cX12_laysFits 73 = .ok (.imul, 1) := by decide +kernel
theorem dX12_laysFits_74 : decode cX12_laysFits 74 = .ok (.iaload, 1) := by decide +kernel
theorem dX12_laysFits_75 : decode cX12_laysFits 75 = .ok (.invokevirtual 392, 3) := by decide +kernel
theorem dX12_laysFits_78 : decode cX12_laysFits 78 = .ok (.aload_n 0, 1) := by decide +kernel
theorem dX12_laysFits_79 : decode cX12_laysFits 79 = .ok (.getfield 74, 3) := by decide +kernel
theorem dX12_laysFits_82 : decode cX12_laysFits 82 = .ok (.iconst 2, 1) := by decide +kernel
theorem dX12_laysFits_83 : decode cX12_laysFits 83 = .ok (.iload 4, 2) := by decide +kernel
theorem dX12_laysFits_85 : decode cX12_laysFits 85 = .ok (.imul, 1) := by decide +kernel
theorem dX12_laysFits_86 : decode cX12_laysFits 86 = .ok (.iconst 1, 1) := by decide +kernel
theorem dX12_laysFits_87 : decode cX12_laysFits 87 = .ok (.iadd, 1) := by decide +kernel
theorem dX12_laysFits_88 : decode cX12_laysFits 88 = .ok (.iaload, 1) := by decide +kernel
theorem dX12_laysFits_89 : decode cX12_laysFits 89 = .ok (.if_icmp .ne 7, 3) := by decide +kernel
theorem dX12_laysFits_92 : decode cX12_laysFits 92 = .ok (.iconst 1, 1) := by decide +kernel
theorem dX12_laysFits_93 : decode cX12_laysFits 93 = .ok (.goto 4, 3) := by decide +kernel
theorem dX12_laysFits_96 : decode cX12_laysFits 96 = .ok (.iconst 0, 1) := by decide +kernel
theorem dX12_laysFits_97 : decode cX12_laysFits 97 = .ok (.istore_n 3, 1) := by decide +kernel
theorem dX12_laysFits_98 : decode cX12_laysFits 98 = .ok (.iinc 4 1, 3) := by decide +kernel
theorem dX12_laysFits_101 : decode cX12_laysFits 101 = .ok (.goto (-49), 3) := by decide +kernel
theorem dX12_laysFits_104 : decode cX12_laysFits 104 = .ok (.iload_n 3, 1) := by decide +kernel
theorem dX12_laysFits_105 : decode cX12_laysFits 105 = .ok (.ifCond .ne 6, 3) := by decide +kernel
theorem dX12_laysFits_108 : decode cX12_laysFits 108 = .ok (.goto 33, 3) := by decide +kernel
theorem dX12_laysFits_111 : decode cX12_laysFits 111 = .ok (.aload_n 0, 1) := by decide +kernel
theorem dX12_laysFits_112 : decode cX12_laysFits 112 = .ok (.getfield 77, 3) := by decide +kernel
theorem dX12_laysFits_115 : decode cX12_laysFits 115 = .ok (.aload_n 0, 1) := by decide +kernel
theorem dX12_laysFits_116 : decode cX12_laysFits 116 = .ok (.getfield 409, 3) := by decide +kernel
theorem dX12_laysFits_119 : decode cX12_laysFits 119 = .ok (.iload_n 1, 1) := by decide +kernel
theorem dX12_laysFits_120 : decode cX12_laysFits 120 = .ok (.iastore, 1) := by decide +kernel
theorem dX12_laysFits_121 : decode cX12_laysFits 121 = .ok (.aload_n 0, 1) := by decide +kernel
theorem dX12_laysFits_122 : decode cX12_laysFits 122 = .ok (.getfield 80, 3) := by decide +kernel
theorem dX12_laysFits_125 : decode cX12_laysFits 125 = .ok (.aload_n 0, 1) := by decide +kernel
theorem dX12_laysFits_126 : decode cX12_laysFits 126 = .ok (.getfield 409, 3) := by decide +kernel
theorem dX12_laysFits_129 : decode cX12_laysFits 129 = .ok (.iload_n 2, 1) := by decide +kernel
theorem dX12_laysFits_130 : decode cX12_laysFits 130 = .ok (.iastore, 1) := by decide +kernel
theorem dX12_laysFits_131 : decode cX12_laysFits 131 = .ok (.aload_n 0, 1) := by decide +kernel
theorem dX12_laysFits_132 : decode cX12_laysFits 132 = .ok (.dup, 1) := by decide +kernel
theorem dX12_laysFits_133 : decode cX12_laysFits 133 = .ok (.getfield 409, 3) := by decide +kernel
theorem dX12_laysFits_136 : decode cX12_laysFits 136 = .ok (.iconst 1, 1) := by decide +kernel
theorem dX12_laysFits_137 : decode cX12_laysFits 137 = .ok (.iadd, 1) := by decide +kernel
theorem dX12_laysFits_138 : decode cX12_laysFits 138 = .ok (.putfield 409, 3) := by decide +kernel
theorem dX12_laysFits_141 : decode cX12_laysFits 141 = .ok (.iinc 2 1, 3) := by decide +kernel
theorem dX12_laysFits_144 : decode cX12_laysFits 144 = .ok (.goto (-127), 3) := by decide +kernel
theorem dX12_laysFits_147 : decode cX12_laysFits 147 = .ok (.iinc 1 1, 3) := by decide +kernel
theorem dX12_laysFits_150 : decode cX12_laysFits 150 = .ok (.goto (-143), 3) := by decide +kernel
theorem dX12_laysFits_153 : decode cX12_laysFits 153 = .ok (.return_, 1) := by decide +kernel
theorem dX12_swings_0 : decode cX12_swings 0 = .ok (.aload_n 0, 1) := by decide +kernel
theorem dX12_swings_1 : decode cX12_swings 1 = .ok (.iconst 0, 1) := by decide +kernel
theorem dX12_swings_2 : decode cX12_swings 2 = .ok (.putfield 3, 3) := by decide +kernel
theorem dX12_swings_5 : decode cX12_swings 5 = .ok (.aload_n 0, 1) := by decide +kernel
theorem dX12_swings_6 : decode cX12_swings 6 = .ok (.iload_n 1, 1) := by decide +kernel
theorem dX12_swings_7 : decode cX12_swings 7 = .ok (.iconst 1, 1) := by decide +kernel
theorem dX12_swings_8 : decode cX12_swings 8 = .ok (.invokevirtual 377, 3) := by decide +kernel
theorem dX12_swings_11 : decode cX12_swings 11 = .ok (.ifCond .eq 35, 3) := by decide +kernel
theorem dX12_swings_14 : decode cX12_swings 14 = .ok (.aload_n 0, 1) := by decide +kernel
theorem dX12_swings_15 : decode cX12_swings 15 = .ok (.iload_n 2, 1) := by decide +kernel
theorem dX12_swings_16 : decode cX12_swings 16 = .ok (.invokestatic 386, 3) := by decide +kernel
theorem dX12_swings_19 : decode cX12_swings 19 = .ok (.ifCond .eq 18, 3) := by decide +kernel
theorem dX12_swings_22 : decode cX12_swings 22 = .ok (.iload_n 3, 1) := by decide +kernel
theorem dX12_swings_23 : decode cX12_swings 23 = .ok (.iconst 1, 1) := by decide +kernel
theorem dX12_swings_24 : decode cX12_swings 24 = .ok (.sipush 2800, 3) := by decide +kernel
theorem dX12_swings_27 : decode cX12_swings 27 = .ok (.invokestatic 368, 3) := by decide +kernel
theorem dX12_swings_30 : decode cX12_swings 30 = .ok (.ifCond .eq 7, 3) := by decide +kernel
theorem dX12_swings_33 : decode cX12_swings 33 = .ok (.iconst 1, 1) := by decide +kernel
theorem dX12_swings_34 : decode cX12_swings 34 = .ok (.goto 4, 3) := by decide +kernel
theorem dX12_swings_37 : decode cX12_swings 37 = .ok (.iconst 0, 1) := by decide +kernel
theorem dX12_swings_38 : decode cX12_swings 38 = .ok (.iconst 2, 1) := by decide +kernel
theorem dX12_swings_39 : decode cX12_swings 39 = .ok (.iconst 1, 1) := by decide +kernel
theorem dX12_swings_40 : decode cX12_swings 40 = .ok (.invokevirtual 190, 3) := by decide +kernel
theorem dX12_swings_43 : decode cX12_swings 43 = .ok (.ifCond .ne 5, 3) := by decide +kernel
theorem dX12_swings_46 : decode cX12_swings 46 = .ok (.iconst 0, 1) := by decide +kernel
theorem dX12_swings_47 : decode cX12_swings 47 = .ok (.ireturn, 1) := by decide +kernel
theorem dX12_swings_48 : decode cX12_swings 48 = .ok (.iconst 0, 1) := by decide +kernel
theorem dX12_swings_49 : decode cX12_swings 49 = .ok (.istore 4, 2) := by decide +kernel
theorem dX12_swings_51 : decode cX12_swings 51 = .ok (.iconst 0, 1) := by decide +kernel
theorem dX12_swings_52 : decode cX12_swings 52 = .ok (.istore 5, 2) := by decide +kernel
theorem dX12_swings_54 : decode cX12_swings 54 = .ok (.iload 5, 2) := by decide +kernel
theorem dX12_swings_56 : decode cX12_swings 56 = .ok (.sipush 128, 3) := by decide +kernel
theorem dX12_swings_59 : decode cX12_swings 59 = .ok (.if_icmp .ge 31, 3) := by decide +kernel
theorem dX12_swings_62 : decode cX12_swings 62 = .ok (.iload 4, 2) := by decide +kernel
theorem dX12_swings_64 : decode cX12_swings 64 = .ok (.aload_n 0, 1) := by decide +kernel
theorem dX12_swings_65 : decode cX12_swings 65 = .ok (.iload_n 1, 1) := by decide +kernel
theorem dX12_swings_66 : decode cX12_swings 66 = .ok (.iload 5, 2) := by decide +kernel
theorem dX12_swings_68 : decode cX12_swings 68 = .ok (.iload_n 2, 1) := by decide +kernel
theorem dX12_swings_69 : decode cX12_swings 69 = .ok (.iload_n 3, 1) := by decide +kernel
theorem dX12_swings_70 : decode cX12_swings 70 = .ok (.invokevirtual 424, 3) := by decide +kernel
theorem dX12_swings_73 : decode cX12_swings 73 = .ok (.ifCond .eq 7, 3) := by decide +kernel
theorem dX12_swings_76 : decode cX12_swings 76 = .ok (.iconst 1, 1) := by decide +kernel
theorem dX12_swings_77 : decode cX12_swings 77 = .ok (.goto 4, 3) := by decide +kernel
theorem dX12_swings_80 : decode cX12_swings 80 = .ok (.iconst 0, 1) := by decide +kernel
theorem dX12_swings_81 : decode cX12_swings 81 = .ok (.iadd, 1) := by decide +kernel
theorem dX12_swings_82 : decode cX12_swings 82 = .ok (.istore 4, 2) := by decide +kernel
theorem dX12_swings_84 : decode cX12_swings 84 = .ok (.iinc 5 1, 3) := by decide +kernel
theorem dX12_swings_87 : decode cX12_swings 87 = .ok (.goto (-33), 3) := by decide +kernel
theorem dX12_swings_90 : decode cX12_swings 90 = .ok (.iload 4, 2) := by decide +kernel
theorem dX12_swings_92 : decode cX12_swings 92 = .ok (.ireturn, 1) := by decide +kernel
theorem dX12_spread_0 : decode cX12_spread 0 = .ok (.aload_n 0, 1) := by decide +kernel
theorem dX12_spread_1 : decode cX12_spread 1 = .ok (.iconst 0, 1) := by decide +kernel
theorem dX12_spread_2 : decode cX12_spread 2 = .ok (.putfield 3, 3) := by decide +kernel
theorem dX12_spread_5 : decode cX12_spread 5 = .ok (.aload_n 0, 1) := by decide +kernel
theorem dX12_spread_6 : decode cX12_spread 6 = .ok (.aload_n 0, 1) := by decide +kernel
theorem dX12_spread_7 : decode cX12_spread 7 = .ok (.iload_n 1, 1) := by decide +kernel
theorem dX12_spread_8 : decode cX12_spread 8 = .ok (.invokevirtual 395, 3) := by decide +kernel
theorem dX12_spread_11 : decode cX12_spread 11 = .ok (.iconst 1, 1) := by decide +kernel
theorem dX12_spread_12 : decode cX12_spread 12 = .ok (.iconst 1, 1) := by decide +kernel
theorem dX12_spread_13 : decode cX12_spread 13 = .ok (.invokevirtual 190, 3) := by decide +kernel
theorem dX12_spread_16 : decode cX12_spread 16 = .ok (.ifCond .ne 5, 3) := by decide +kernel
theorem dX12_spread_19 : decode cX12_spread 19 = .ok (.iconst 0, 1) := by decide +kernel
theorem dX12_spread_20 : decode cX12_spread 20 = .ok (.ireturn, 1) := by decide +kernel
theorem dX12_spread_21 : decode cX12_spread 21 = .ok (.aload_n 0, 1) := by decide +kernel
theorem dX12_spread_22 : decode cX12_spread 22 = .ok (.invokevirtual 301, 3) := by decide +kernel
theorem dX12_spread_25 : decode cX12_spread 25 = .ok (.aload_n 0, 1) := by decide +kernel
theorem dX12_spread_26 : decode cX12_spread 26 = .ok (.iload_n 1, 1) := by decide +kernel
theorem dX12_spread_27 : decode cX12_spread 27 = .ok (.invokevirtual 398, 3) := by decide +kernel
theorem dX12_spread_30 : decode cX12_spread 30 = .ok (.ireturn, 1) := by decide +kernel
theorem dX12_light_0 : decode cX12_light 0 = .ok (.aload_n 0, 1) := by decide +kernel
theorem dX12_light_1 : decode cX12_light 1 = .ok (.iconst 0, 1) := by decide +kernel
theorem dX12_light_2 : decode cX12_light 2 = .ok (.putfield 3, 3) := by decide +kernel
theorem dX12_light_5 : decode cX12_light 5 = .ok (.aload_n 0, 1) := by decide +kernel
theorem dX12_light_6 : decode cX12_light 6 = .ok (.iload_n 1, 1) := by decide +kernel
theorem dX12_light_7 : decode cX12_light 7 = .ok (.iconst 1, 1) := by decide +kernel
theorem dX12_light_8 : decode cX12_light 8 = .ok (.invokevirtual 377, 3) := by decide +kernel
theorem dX12_light_11 : decode cX12_light 11 = .ok (.ifCond .eq 36, 3) := by decide +kernel
theorem dX12_light_14 : decode cX12_light 14 = .ok (.aload_n 0, 1) := by decide +kernel
theorem dX12_light_15 : decode cX12_light 15 = .ok (.aload_n 0, 1) := by decide +kernel
theorem dX12_light_16 : decode cX12_light 16 = .ok (.iload_n 2, 1) := by decide +kernel
theorem dX12_light_17 : decode cX12_light 17 = .ok (.invokevirtual 395, 3) := by decide +kernel
theorem dX12_light_20 : decode cX12_light 20 = .ok (.ifCond .eq 18, 3) := by decide +kernel
theorem dX12_light_23 : decode cX12_light 23 = .ok (.iload_n 3, 1) := by decide +kernel
theorem dX12_light_24 : decode cX12_light 24 = .ok (.iconst 0, 1) := by decide +kernel
theorem dX12_light_25 : decode cX12_light 25 = .ok (.sipush 2800, 3) := by decide +kernel
theorem dX12_light_28 : decode cX12_light 28 = .ok (.invokestatic 368, 3) := by decide +kernel
theorem dX12_light_31 : decode cX12_light 31 = .ok (.ifCond .eq 7, 3) := by decide +kernel
theorem dX12_light_34 : decode cX12_light 34 = .ok (.iconst 1, 1) := by decide +kernel
theorem dX12_light_35 : decode cX12_light 35 = .ok (.goto 4, 3) := by decide +kernel
theorem dX12_light_38 : decode cX12_light 38 = .ok (.iconst 0, 1) := by decide +kernel
theorem dX12_light_39 : decode cX12_light 39 = .ok (.iconst 2, 1) := by decide +kernel
theorem dX12_light_40 : decode cX12_light 40 = .ok (.iconst 1, 1) := by decide +kernel
theorem dX12_light_41 : decode cX12_light 41 = .ok (.invokevirtual 190, 3) := by decide +kernel
theorem dX12_light_44 : decode cX12_light 44 = .ok (.ifCond .ne 5, 3) := by decide +kernel
theorem dX12_light_47 : decode cX12_light 47 = .ok (.iconst 0, 1) := by decide +kernel
theorem dX12_light_48 : decode cX12_light 48 = .ok (.ireturn, 1) := by decide +kernel
theorem dX12_light_49 : decode cX12_light 49 = .ok (.aload_n 0, 1) := by decide +kernel
theorem dX12_light_50 : decode cX12_light 50 = .ok (.invokevirtual 301, 3) := by decide +kernel
theorem dX12_light_53 : decode cX12_light 53 = .ok (.sipush 2800, 3) := by decide +kernel
theorem dX12_light_56 : decode cX12_light 56 = .ok (.istore 4, 2) := by decide +kernel
theorem dX12_light_58 : decode cX12_light 58 = .ok (.aload_n 0, 1) := by decide +kernel
theorem dX12_light_59 : decode cX12_light 59 = .ok (.iload_n 2, 1) := by decide +kernel
theorem dX12_light_60 : decode cX12_light 60 = .ok (.iload 4, 2) := by decide +kernel
theorem dX12_light_62 : decode cX12_light 62 = .ok (.invokevirtual 441, 3) := by decide +kernel
theorem dX12_light_65 : decode cX12_light 65 = .ok (.iload_n 3, 1) := by decide +kernel
theorem dX12_light_66 : decode cX12_light 66 = .ok (.if_icmp .le 9, 3) := by decide +kernel
theorem dX12_light_69 : decode cX12_light 69 = .ok (.iinc 4 (-1), 3) := by decide +kernel
theorem dX12_light_72 : decode cX12_light 72 = .ok (.goto (-14), 3) := by decide +kernel
theorem dX12_light_75 : decode cX12_light 75 = .ok (.iload_n 2, 1) := by decide +kernel
theorem dX12_light_76 : decode cX12_light 76 = .ok (.iload_n 1, 1) := by decide +kernel
theorem dX12_light_77 : decode cX12_light 77 = .ok (.ishr, 1) := by decide +kernel
theorem dX12_light_78 : decode cX12_light 78 = .ok (.iconst 1, 1) := by decide +kernel
theorem dX12_light_79 : decode cX12_light 79 = .ok (.iand, 1) := by decide +kernel
theorem dX12_light_80 : decode cX12_light 80 = .ok (.ifCond .ne 7, 3) := by decide +kernel
theorem dX12_light_83 : decode cX12_light 83 = .ok (.iconst 0, 1) := by decide +kernel
theorem dX12_light_84 : decode cX12_light 84 = .ok (.goto 10, 3) := by decide +kernel
theorem dX12_light_87 : decode cX12_light 87 = .ok (.aload_n 0, 1) := by decide +kernel
theorem dX12_light_88 : decode cX12_light 88 = .ok (.iload_n 1, 1) := by decide +kernel
theorem dX12_light_89 : decode cX12_light 89 = .ok (.iload 4, 2) := by decide +kernel
theorem dX12_light_91 : decode cX12_light 91 = .ok (.invokevirtual 438, 3) := by decide +kernel
theorem dX12_light_94 : decode cX12_light 94 = .ok (.ireturn, 1) := by decide +kernel
theorem dX12_least_0 : decode cX12_least 0 = .ok (.lload_n 0, 1) := by decide +kernel
theorem dX12_least_1 : decode cX12_least 1 = .ok (.lstore 5, 2) := by decide +kernel
theorem dX12_least_3 : decode cX12_least 3 = .ok (.lload_n 2, 1) := by decide +kernel
theorem dX12_least_4 : decode cX12_least 4 = .ok (.lstore 7, 2) := by decide +kernel
theorem dX12_least_6 : decode cX12_least 6 = .ok (.lload 7, 2) := by decide +kernel
theorem dX12_least_8 : decode cX12_least 8 = .ok (.lconst 0, 1) := by decide +kernel
theorem dX12_least_9 : decode cX12_least 9 = .ok (.lcmp, 1) := by decide +kernel
theorem dX12_least_10 : decode cX12_least 10 = .ok (.ifCond .eq 21, 3) := by decide +kernel
theorem dX12_least_13 : decode cX12_least 13 = .ok (.lload 5, 2) := by decide +kernel
theorem dX12_least_15 : decode cX12_least 15 = .ok (.lload 7, 2) := by decide +kernel
theorem dX12_least_17 : decode cX12_least 17 = .ok (.lrem, 1) := by decide +kernel
theorem dX12_least_18 : decode cX12_least 18 = .ok (.lstore 9, 2) := by decide +kernel
theorem dX12_least_20 : decode cX12_least 20 = .ok (.lload 7, 2) := by decide +kernel
theorem dX12_least_22 : decode cX12_least 22 = .ok (.lstore 5, 2) := by decide +kernel
theorem dX12_least_24 : decode cX12_least 24 = .ok (.lload 9, 2) := by decide +kernel
theorem dX12_least_26 : decode cX12_least 26 = .ok (.lstore 7, 2) := by decide +kernel
theorem dX12_least_28 : decode cX12_least 28 = .ok (.goto (-22), 3) := by decide +kernel
theorem dX12_least_31 : decode cX12_least 31 = .ok (.iload 4, 2) := by decide +kernel
theorem dX12_least_33 : decode cX12_least 33 = .ok (.ifCond .ne 7, 3) := by decide +kernel
theorem dX12_least_36 : decode cX12_least 36 = .ok (.lload_n 0, 1) := by decide +kernel
theorem dX12_least_37 : decode cX12_least 37 = .ok (.goto 4, 3) := by decide +kernel
theorem dX12_least_40 : decode cX12_least 40 = .ok (.lload_n 2, 1) := by decide +kernel
theorem dX12_least_41 : decode cX12_least 41 = .ok (.lload 5, 2) := by decide +kernel
theorem dX12_least_43 : decode cX12_least 43 = .ok (.ldiv, 1) := by decide +kernel
theorem dX12_least_44 : decode cX12_least 44 = .ok (.lreturn, 1) := by decide +kernel
theorem dX12_strongestOf_0 : decode cX12_strongestOf 0 = .ok (.iconst 0, 1) := by decide +kernel
theorem dX12_strongestOf_1 : decode cX12_strongestOf 1 = .ok (.istore_n 2, 1) := by decide +kernel
theorem dX12_strongestOf_2 : decode cX12_strongestOf 2 = .ok (.iconst 0, 1) := by decide +kernel
theorem dX12_strongestOf_3 : decode cX12_strongestOf 3 = .ok (.istore_n 3, 1) := by decide +kernel
theorem dX12_strongestOf_4 : decode cX12_strongestOf 4 = .ok (.iload_n 3, 1) := by decide +kernel
theorem dX12_strongestOf_5 : decode cX12_strongestOf 5 = .ok (.bipush 7, 2) := by decide +kernel
theorem dX12_strongestOf_7 : decode cX12_strongestOf 7 = .ok (.if_icmp .ge 40, 3) := by decide +kernel
theorem dX12_strongestOf_10 : decode cX12_strongestOf 10 = .ok (.aload_n 0, 1) := by decide +kernel
theorem dX12_strongestOf_11 : decode cX12_strongestOf 11 = .ok (.getfield 59, 3) := by decide +kernel
theorem dX12_strongestOf_14 : decode cX12_strongestOf 14 = .ok (.iconst 0, 1) := by decide +kernel
theorem dX12_strongestOf_15 : decode cX12_strongestOf 15 = .ok (.iload_n 1, 1) := by decide +kernel
theorem dX12_strongestOf_16 : decode cX12_strongestOf 16 = .ok (.iload_n 3, 1) := by decide +kernel
theorem dX12_strongestOf_17 : decode cX12_strongestOf 17 = .ok (.invokestatic 319, 3) := by decide +kernel
theorem dX12_strongestOf_20 : decode cX12_strongestOf 20 = .ok (.iaload, 1) := by decide +kernel
theorem dX12_strongestOf_21 : decode cX12_strongestOf 21 = .ok (.iload_n 2, 1) := by decide +kernel
theorem dX12_strongestOf_22 : decode cX12_strongestOf 22 = .ok (.if_icmp .le 17, 3) := by decide +kernel
theorem dX12_strongestOf_25 : decode cX12_strongestOf 25 = .ok (.aload_n 0, 1) := by decide +kernel
theorem dX12_strongestOf_26 : decode cX12_strongestOf 26 = .ok (.getfield 59, 3) := by decide +kernel
theorem dX12_strongestOf_29 : decode cX12_strongestOf 29 = .ok (.iconst 0, 1) := by decide +kernel
theorem dX12_strongestOf_30 : decode cX12_strongestOf 30 = .ok (.iload_n 1, 1) := by decide +kernel
theorem dX12_strongestOf_31 : decode cX12_strongestOf 31 = .ok (.iload_n 3, 1) := by decide +kernel
theorem dX12_strongestOf_32 : decode cX12_strongestOf 32 = .ok (.invokestatic 319, 3) := by decide +kernel
theorem dX12_strongestOf_35 : decode cX12_strongestOf 35 = .ok (.iaload, 1) := by decide +kernel
theorem dX12_strongestOf_36 : decode cX12_strongestOf 36 = .ok (.goto 4, 3) := by decide +kernel
theorem dX12_strongestOf_39 : decode cX12_strongestOf 39 = .ok (.iload_n 2, 1) := by decide +kernel
theorem dX12_strongestOf_40 : decode cX12_strongestOf 40 = .ok (.istore_n 2, 1) := by decide +kernel
theorem dX12_strongestOf_41 : decode cX12_strongestOf 41 = .ok (.iinc 3 1, 3) := by decide +kernel
theorem dX12_strongestOf_44 : decode cX12_strongestOf 44 = .ok (.goto (-40), 3) := by decide +kernel
theorem dX12_strongestOf_47 : decode cX12_strongestOf 47 = .ok (.iload_n 2, 1) := by decide +kernel
theorem dX12_strongestOf_48 : decode cX12_strongestOf 48 = .ok (.ireturn, 1) := by decide +kernel
theorem dX12_halo_0 : decode cX12_halo 0 = .ok (.aload_n 0, 1) := by decide +kernel
theorem dX12_halo_1 : decode cX12_halo 1 = .ok (.iconst 0, 1) := by decide +kernel
theorem dX12_halo_2 : decode cX12_halo 2 = .ok (.putfield 3, 3) := by decide +kernel
theorem dX12_halo_5 : decode cX12_halo 5 = .ok (.aload_n 0, 1) := by decide +kernel
theorem dX12_halo_6 : decode cX12_halo 6 = .ok (.iload_n 1, 1) := by decide +kernel
theorem dX12_halo_7 : decode cX12_halo 7 = .ok (.iconst 0, 1) := by decide +kernel
theorem dX12_halo_8 : decode cX12_halo 8 = .ok (.aload_n 0, 1) := by decide +kernel
theorem dX12_halo_9 : decode cX12_halo 9 = .ok (.getfield 156, 3) := by decide +kernel
theorem dX12_halo_12 : decode cX12_halo 12 = .ok (.iconst 1, 1) := by decide +kernel
theorem dX12_halo_13 : decode cX12_halo 13 = .ok (.isub, 1) := by decide +kernel
theorem dX12_halo_14 : decode cX12_halo 14 = .ok (.invokestatic 368, 3) := by decide +kernel
theorem dX12_halo_17 : decode cX12_halo 17 = .ok (.ifCond .eq 17, 3) := by decide +kernel
theorem dX12_halo_20 : decode cX12_halo 20 = .ok (.iload_n 2, 1) := by decide +kernel
theorem dX12_halo_21 : decode cX12_halo 21 = .ok (.iconst 0, 1) := by decide +kernel
theorem dX12_halo_22 : decode cX12_halo 22 = .ok (.bipush 99, 2) := by decide +kernel
theorem dX12_halo_24 : decode cX12_halo 24 = .ok (.invokestatic 368, 3) := by decide +kernel
theorem dX12_halo_27 : decode cX12_halo 27 = .ok (.ifCond .eq 7, 3) := by decide +kernel
theorem dX12_halo_30 : decode cX12_halo 30 = .ok (.iconst 1, 1) := by decide +kernel
theorem dX12_halo_31 : decode cX12_halo 31 = .ok (.goto 4, 3) := by decide +kernel
theorem dX12_halo_34 : decode cX12_halo 34 = .ok (.iconst 0, 1) := by decide +kernel
theorem dX12_halo_35 : decode cX12_halo 35 = .ok (.iconst 1, 1) := by decide +kernel
theorem dX12_halo_36 : decode cX12_halo 36 = .ok (.iconst 1, 1) := by decide +kernel
theorem dX12_halo_37 : decode cX12_halo 37 = .ok (.invokevirtual 190, 3) := by decide +kernel
theorem dX12_halo_40 : decode cX12_halo 40 = .ok (.ifCond .ne 5, 3) := by decide +kernel
theorem dX12_halo_43 : decode cX12_halo 43 = .ok (.iconst 0, 1) := by decide +kernel
theorem dX12_halo_44 : decode cX12_halo 44 = .ok (.ireturn, 1) := by decide +kernel
theorem dX12_halo_45 : decode cX12_halo 45 = .ok (.iconst 0, 1) := by decide +kernel
theorem dX12_halo_46 : decode cX12_halo 46 = .ok (.istore_n 3, 1) := by decide +kernel
theorem dX12_halo_47 : decode cX12_halo 47 = .ok (.iconst 0, 1) := by decide +kernel
theorem dX12_halo_48 : decode cX12_halo 48 = .ok (.istore 4, 2) := by decide +kernel
theorem dX12_halo_50 : decode cX12_halo 50 = .ok (.iload 4, 2) := by decide +kernel
theorem dX12_halo_52 : decode cX12_halo 52 = .ok (.bipush 42, 2) := by decide +kernel
theorem dX12_halo_54 : decode cX12_halo 54 = .ok (.if_icmp .ge 45, 3) := by decide +kernel
theorem dX12_halo_57 : decode cX12_halo 57 = .ok (.iload_n 3, 1) := by decide +kernel
theorem dX12_halo_58 : decode cX12_halo 58 = .ok (.aload_n 0, 1) := by decide +kernel
theorem dX12_halo_59 : decode cX12_halo 59 = .ok (.getfield 59, 3) := by decide +kernel
theorem dX12_halo_62 : decode cX12_halo 62 = .ok (.bipush 84, 2) := by decide +kernel
theorem dX12_halo_64 : decode cX12_halo 64 = .ok (.iload 4, 2) := by decide +kernel
theorem dX12_halo_66 : decode cX12_halo 66 = .ok (.iadd, 1) := by decide +kernel
theorem dX12_halo_67 : decode cX12_halo 67 = .ok (.iaload, 1) := by decide +kernel
theorem dX12_halo_68 : decode cX12_halo 68 = .ok (.iload_n 1, 1) := by decide +kernel
theorem dX12_halo_69 : decode cX12_halo 69 = .ok (.isub, 1) := by decide +kernel
theorem dX12_halo_70 : decode cX12_halo 70 = .ok (.invokestatic 407, 3) := by decide +kernel
theorem dX12_halo_73 : decode cX12_halo 73 = .ok (.iload_n 2, 1) := by decide +kernel
theorem dX12_halo_74 : decode cX12_halo 74 = .ok (.if_icmp .gt 16, 3) := by decide +kernel
theorem dX12_halo_77 : decode cX12_halo 77 = .ok (.aload_n 0, 1) := by decide +kernel
theorem dX12_halo_78 : decode cX12_halo 78 = .ok (.getfield 59, 3) := by decide +kernel
theorem dX12_halo_81 : decode cX12_halo 81 = .ok (.bipush 42, 2) := by decide +kernel
theorem dX12_halo_83 : decode cX12_halo 83 = .ok (.iload 4, 2) := by decide +kernel
theorem dX12_halo_85 : decode cX12_halo 85 = .ok (.iadd, 1) := by decide +kernel
theorem dX12_halo_86 : decode cX12_halo 86 = .ok (.iaload, 1) := by decide +kernel
theorem dX12_halo_87 : decode cX12_halo 87 = .ok (.goto 4, 3) := by decide +kernel
theorem dX12_halo_90 : decode cX12_halo 90 = .ok (.iconst 0, 1) := by decide +kernel
theorem dX12_halo_91 : decode cX12_halo 91 = .ok (.iadd, 1) := by decide +kernel
theorem dX12_halo_92 : decode cX12_halo 92 = .ok (.istore_n 3, 1) := by decide +kernel
theorem dX12_halo_93 : decode cX12_halo 93 = .ok (.iinc 4 1, 3) := by decide +kernel
theorem dX12_halo_96 : decode cX12_halo 96 = .ok (.goto (-46), 3) := by decide +kernel
theorem dX12_halo_99 : decode cX12_halo 99 = .ok (.iload_n 3, 1) := by decide +kernel
theorem dX12_halo_100 : decode cX12_halo 100 = .ok (.ireturn, 1) := by decide +kernel
theorem dX12_fellow_0 : decode cX12_fellow 0 = .ok (.aload_n 0, 1) := by decide +kernel
theorem dX12_fellow_1 : decode cX12_fellow 1 = .ok (.iconst 0, 1) := by decide +kernel
theorem dX12_fellow_2 : decode cX12_fellow 2 = .ok (.putfield 3, 3) := by decide +kernel
theorem dX12_fellow_5 : decode cX12_fellow 5 = .ok (.aload_n 0, 1) := by decide +kernel
theorem dX12_fellow_6 : decode cX12_fellow 6 = .ok (.iload_n 1, 1) := by decide +kernel
theorem dX12_fellow_7 : decode cX12_fellow 7 = .ok (.iconst 1, 1) := by decide +kernel
theorem dX12_fellow_8 : decode cX12_fellow 8 = .ok (.invokevirtual 377, 3) := by decide +kernel
theorem dX12_fellow_11 : decode cX12_fellow 11 = .ok (.ifCond .eq 19, 3) := by decide +kernel
theorem dX12_fellow_14 : decode cX12_fellow 14 = .ok (.aload_n 0, 1) := by decide +kernel
theorem dX12_fellow_15 : decode cX12_fellow 15 = .ok (.iload_n 2, 1) := by decide +kernel
theorem dX12_fellow_16 : decode cX12_fellow 16 = .ok (.iconst 0, 1) := by decide +kernel
theorem dX12_fellow_17 : decode cX12_fellow 17 = .ok (.bipush 7, 2) := by decide +kernel
theorem dX12_fellow_19 : decode cX12_fellow 19 = .ok (.invokestatic 368, 3) := by decide +kernel
theorem dX12_fellow_22 : decode cX12_fellow 22 = .ok (.iconst 2, 1) := by decide +kernel
theorem dX12_fellow_23 : decode cX12_fellow 23 = .ok (.iconst 1, 1) := by decide +kernel
theorem dX12_fellow_24 : decode cX12_fellow 24 = .ok (.invokevirtual 190, 3) := by decide +kernel
theorem dX12_fellow_27 : decode cX12_fellow 27 = .ok (.ifCond .ne 5, 3) := by decide +kernel
theorem dX12_fellow_30 : decode cX12_fellow 30 = .ok (.iconst 0, 1) := by decide +kernel
theorem dX12_fellow_31 : decode cX12_fellow 31 = .ok (.ireturn, 1) := by decide +kernel
theorem dX12_fellow_32 : decode cX12_fellow 32 = .ok (.aload_n 0, 1) := by decide +kernel
theorem dX12_fellow_33 : decode cX12_fellow 33 = .ok (.invokevirtual 301, 3) := by decide +kernel
theorem dX12_fellow_36 : decode cX12_fellow 36 = .ok (.iload_n 2, 1) := by decide +kernel
theorem dX12_fellow_37 : decode cX12_fellow 37 = .ok (.iconst 3, 1) := by decide +kernel
theorem dX12_fellow_38 : decode cX12_fellow 38 = .ok (.if_icmp .ge 39, 3) := by decide +kernel
theorem dX12_fellow_41 : decode cX12_fellow 41 = .ok (.iload_n 2, 1) := by decide +kernel
theorem dX12_fellow_42 : decode cX12_fellow 42 = .ok (.ifCond .ne 11, 3) := by decide +kernel
theorem dX12_fellow_45 : decode cX12_fellow 45 = .ok (.aload_n 0, 1) := by decide +kernel
theorem dX12_fellow_46 : decode cX12_fellow 46 = .ok (.iload_n 1, 1) := by decide +kernel
theorem dX12_fellow_47 : decode cX12_fellow 47 = .ok (.invokevirtual 328, 3) := by decide +kernel
theorem dX12_fellow_50 : decode cX12_fellow 50 = .ok (.goto 26, 3) := by decide +kernel
theorem dX12_fellow_53 : decode cX12_fellow 53 = .ok (.aload_n 0, 1) := by decide +kernel
theorem dX12_fellow_54 : decode cX12_fellow 54 = .ok (.iload_n 2, 1) := by decide +kernel
theorem dX12_fellow_55 : decode cX12_fellow 55 = .ok (.iconst 1, 1) := by decide +kernel
theorem dX12_fellow_56 : decode cX12_fellow 56 = .ok (.if_icmp .ne 8, 3) := by decide +kernel
theorem dX12_fellow_59 : decode cX12_fellow 59 = .ok (.bipush 42, 2) := by decide +kernel
theorem dX12_fellow_61 : decode cX12_fellow 61 = .ok (.goto 5, 3) := by decide +kernel
theorem dX12_fellow_64 : decode cX12_fellow 64 = .ok (.bipush 126, 2) := by decide +kernel
theorem dX12_fellow_66 : decode cX12_fellow 66 = .ok (.iload_n 1, 1) := by decide +kernel
theorem dX12_fellow_67 : decode cX12_fellow 67 = .ok (.iconst 0, 1) := by decide +kernel
theorem dX12_fellow_68 : decode cX12_fellow 68 = .ok (.invokestatic 319, 3) := by decide +kernel
theorem dX12_fellow_71 : decode cX12_fellow 71 = .ok (.bipush 7, 2) := by decide +kernel
theorem dX12_fellow_73 : decode cX12_fellow 73 = .ok (.invokevirtual 322, 3) := by decide +kernel
theorem dX12_fellow_76 : decode cX12_fellow 76 = .ok (.ireturn, 1) := by decide +kernel
theorem dX12_fellow_77 : decode cX12_fellow 77 = .ok (.iload_n 2, 1) := by decide +kernel
theorem dX12_fellow_78 : decode cX12_fellow 78 = .ok (.bipush 6, 2) := by decide +kernel
theorem dX12_fellow_80 : decode cX12_fellow 80 = .ok (.if_icmp .ge 48, 3) := by decide +kernel
theorem dX12_fellow_83 : decode cX12_fellow 83 = .ok (.iload_n 2, 1) := by decide +kernel
theorem dX12_fellow_84 : decode cX12_fellow 84 = .ok (.iconst 3, 1) := by decide +kernel
theorem dX12_fellow_85 : decode cX12_fellow 85 = .ok (.if_icmp .ne 11, 3) := by decide +kernel
theorem dX12_fellow_88 : decode cX12_fellow 88 = .ok (.aload_n 0, 1) := by decide +kernel
theorem dX12_fellow_89 : decode cX12_fellow 89 = .ok (.iload_n 1, 1) := by decide +kernel
theorem dX12_fellow_90 : decode cX12_fellow 90 = .ok (.invokevirtual 380, 3) := by decide +kernel
theorem dX12_fellow_93 : decode cX12_fellow 93 = .ok (.goto 34, 3) := by decide +kernel
theorem dX12_fellow_96 : decode cX12_fellow 96 = .ok (.iload_n 2, 1) := by decide +kernel
theorem dX12_fellow_97 : decode cX12_fellow 97 = .ok (.iconst 5, 1) := by decide +kernel
theorem dX12_fellow_98 : decode cX12_fellow 98 = .ok (.if_icmp .ne 16, 3) := by decide +kernel
theorem dX12_fellow_101 : decode cX12_fellow 101 = .ok (.aload_n 0, 1) := by decide +kernel
theorem dX12_fellow_102 : decode cX12_fellow 102 = .ok (.getfield 62, 3) := by decide +kernel
theorem dX12_fellow_105 : decode cX12_fellow 105 = .ok (.sipush 168, 3) := by decide +kernel
theorem dX12_fellow_108 : decode cX12_fellow 108 = .ok (.iload_n 1, 1) := by decide +kernel
theorem dX12_fellow_109 : decode cX12_fellow 109 = .ok (.iadd, 1) := by decide +kernel
theorem dX12_fellow_110 : decode cX12_fellow 110 = .ok (.iaload, 1) := by decide +kernel
theorem dX12_fellow_111 : decode cX12_fellow 111 = .ok (.goto 16, 3) := by decide +kernel
theorem dX12_fellow_114 : decode cX12_fellow 114 = .ok (.aload_n 0, 1) := by decide +kernel
theorem dX12_fellow_115 : decode cX12_fellow 115 = .ok (.iload_n 1, 1) := by decide +kernel
theorem dX12_fellow_116 : decode cX12_fellow 116 = .ok (.invokevirtual 362, 3) := by decide +kernel
theorem dX12_fellow_119 : decode cX12_fellow 119 = .ok (.ifCond .eq 7, 3) := by decide +kernel
theorem dX12_fellow_122 : decode cX12_fellow 122 = .ok (.iconst 1, 1) := by decide +kernel
theorem dX12_fellow_123 : decode cX12_fellow 123 = .ok (.goto 4, 3) := by decide +kernel
theorem dX12_fellow_126 : decode cX12_fellow 126 = .ok (.iconst 0, 1) := by decide +kernel
theorem dX12_fellow_127 : decode cX12_fellow 127 = .ok (.ireturn, 1) := by decide +kernel
theorem dX12_fellow_128 : decode cX12_fellow 128 = .ok (.aload_n 0, 1) := by decide +kernel
theorem dX12_fellow_129 : decode cX12_fellow 129 = .ok (.iload_n 1, 1) := by decide +kernel
theorem dX12_fellow_130 : decode cX12_fellow 130 = .ok (.iload_n 2, 1) := by decide +kernel
theorem dX12_fellow_131 : decode cX12_fellow 131 = .ok (.bipush 6, 2) := by decide +kernel
theorem dX12_fellow_133 : decode cX12_fellow 133 = .ok (.isub, 1) := by decide +kernel
theorem dX12_fellow_134 : decode cX12_fellow 134 = .ok (.invokevirtual 383, 3) := by decide +kernel
theorem dX12_fellow_137 : decode cX12_fellow 137 = .ok (.ireturn, 1) := by decide +kernel
theorem fl_X12_175 : FL RX12 175 12 32 := ⟨RX12, TX12, 50, rfl, rfl, by decide, inU_X12, Or.inl (inBi 1388 (by decide +kernel))⟩
theorem fl_X12_166 : FL RX12 166 12 42 := ⟨RX12, TX12, 50, rfl, rfl, by decide, inU_X12, Or.inl (inBi 1398 (by decide +kernel))⟩
set_option maxRecDepth 20000 in
theorem cw_X12_scattered : Cond.code yX12_scattered cX12_scattered 3 (some .int) ∈ BIG := inB (List.mem_of_getElem? (i := 1753) rfl) rfl
theorem mv_X12_374 : MV RX12 374 yX12_scattered cX12_scattered 3 (some .int) 0 := ⟨inBi 1750 (by decide +kernel), inBi 1752 (by decide +kernel), inBi 70 (by decide +kernel), inBi 106 (by decide +kernel), cw_X12_scattered, by decide +kernel, by decide +kernel, by decide +kernel⟩
set_option maxRecDepth 20000 in
theorem cw_X12_whites : Cond.code yX12_whites cX12_whites 3 (some .int) ∈ BIG := inB (List.mem_of_getElem? (i := 1745) rfl) rfl
theorem mv_X12_371 : MV RX12 371 yX12_whites cX12_whites 3 (some .int) 0 := ⟨inBi 1742 (by decide +kernel), inBi 1744 (by decide +kernel), inBi 68 (by decide +kernel), inBi 106 (by decide +kernel), cw_X12_whites, by decide +kernel, by decide +kernel, by decide +kernel⟩
theorem fl_X12_153 : FL RX12 153 12 18 := ⟨RX12, TX12, 50, rfl, rfl, by decide, inU_X12, Or.inl (inBi 1374 (by decide +kernel))⟩
set_option maxRecDepth 20000 in
theorem cw_X12_take : Cond.code yX12_take cX12_take 1 none ∈ BIG := inB (List.mem_of_getElem? (i := 1660) rfl) rfl
theorem mv_X12_301 : MV RX12 301 yX12_take cX12_take 1 none 0 := ⟨inBi 1657 (by decide +kernel), inBi 1659 (by decide +kernel), inBi 52 (by decide +kernel), inBi 106 (by decide +kernel), cw_X12_take, by decide +kernel, by decide +kernel, by decide +kernel⟩
set_option maxRecDepth 20000 in
theorem cw_X12_within : Cond.code yX12_within cX12_within 3 (some .boolean) ∈ BIG := inB (List.mem_of_getElem? (i := 1741) rfl) rfl
theorem ms_X12_368 : MS RX12 368 yX12_within cX12_within 3 (some .boolean) 3 := ⟨Or.inl (inBi 1739 (by decide +kernel)), inBi 1740 (by decide +kernel), inBi 106 (by decide +kernel), cw_X12_within, by decide +kernel, by decide +kernel, by decide +kernel⟩
set_option maxRecDepth 20000 in
theorem cw_X12_spotOf : Cond.code yX12_spotOf cX12_spotOf 6 (some .int) ∈ BIG := inB (List.mem_of_getElem? (i := 1773) rfl) rfl
theorem mv_X12_383 : MV RX12 383 yX12_spotOf cX12_spotOf 6 (some .int) 2 := ⟨inBi 1770 (by decide +kernel), inBi 1772 (by decide +kernel), inBi 74 (by decide +kernel), inBi 106 (by decide +kernel), cw_X12_spotOf, by decide +kernel, by decide +kernel, by decide +kernel⟩
set_option maxRecDepth 20000 in
theorem cw_X12_darkOf : Cond.code yX12_darkOf cX12_darkOf 4 (some .int) ∈ BIG := inB (List.mem_of_getElem? (i := 1769) rfl) rfl
theorem mv_X12_380 : MV RX12 380 yX12_darkOf cX12_darkOf 4 (some .int) 1 := ⟨inBi 1766 (by decide +kernel), inBi 1768 (by decide +kernel), inBi 73 (by decide +kernel), inBi 106 (by decide +kernel), cw_X12_darkOf, by decide +kernel, by decide +kernel, by decide +kernel⟩
set_option maxRecDepth 20000 in
theorem cw_X12_isFellow : Cond.code yX12_isFellow cX12_isFellow 3 (some .boolean) ∈ BIG := inB (List.mem_of_getElem? (i := 1765) rfl) rfl
theorem mv_X12_377 : MV RX12 377 yX12_isFellow cX12_isFellow 3 (some .boolean) 2 := ⟨inBi 1762 (by decide +kernel), inBi 1764 (by decide +kernel), inBi 72 (by decide +kernel), inBi 106 (by decide +kernel), cw_X12_isFellow, by decide +kernel, by decide +kernel, by decide +kernel⟩
set_option maxRecDepth 20000 in
theorem cw_X12_isPart : Cond.code yX12_isPart cX12_isPart 1 (some .boolean) ∈ BIG := inB (List.mem_of_getElem? (i := 1780) rfl) rfl
theorem ms_X12_386 : MS RX12 386 yX12_isPart cX12_isPart 1 (some .boolean) 1 := ⟨Or.inl (inBi 1778 (by decide +kernel)), inBi 1779 (by decide +kernel), inBi 106 (by decide +kernel), cw_X12_isPart, by decide +kernel, by decide +kernel, by decide +kernel⟩
set_option maxRecDepth 20000 in
theorem cw_X12_isGlass : Cond.code yX12_isGlass cX12_isGlass 3 (some .boolean) ∈ BIG := inB (List.mem_of_getElem? (i := 1788) rfl) rfl
theorem mv_X12_389 : MV RX12 389 yX12_isGlass cX12_isGlass 3 (some .boolean) 2 := ⟨inBi 1785 (by decide +kernel), inBi 1787 (by decide +kernel), inBi 75 (by decide +kernel), inBi 106 (by decide +kernel), cw_X12_isGlass, by decide +kernel, by decide +kernel, by decide +kernel⟩
set_option maxRecDepth 20000 in
theorem cw_X12_atPlace : Cond.code yX12_atPlace cX12_atPlace 4 (some .int) ∈ BIG := inB (List.mem_of_getElem? (i := 1796) rfl) rfl
theorem mv_X12_392 : MV RX12 392 yX12_atPlace cX12_atPlace 4 (some .int) 1 := ⟨inBi 1793 (by decide +kernel), inBi 1795 (by decide +kernel), inBi 76 (by decide +kernel), inBi 106 (by decide +kernel), cw_X12_atPlace, by decide +kernel, by decide +kernel, by decide +kernel⟩
set_option maxRecDepth 20000 in
theorem cw_X12_spreadOf : Cond.code yX12_spreadOf cX12_spreadOf 7 (some .int) ∈ BIG := inB (List.mem_of_getElem? (i := 1820) rfl) rfl
theorem mv_X12_398 : MV RX12 398 yX12_spreadOf cX12_spreadOf 7 (some .int) 1 := ⟨inBi 1817 (by decide +kernel), inBi 1819 (by decide +kernel), inBi 78 (by decide +kernel), inBi 106 (by decide +kernel), cw_X12_spreadOf, by decide +kernel, by decide +kernel, by decide +kernel⟩
set_option maxRecDepth 20000 in
theorem cw_X12_isSet : Cond.code yX12_isSet cX12_isSet 2 (some .boolean) ∈ BIG := inB (List.mem_of_getElem? (i := 1816) rfl) rfl
theorem mv_X12_395 : MV RX12 395 yX12_isSet cX12_isSet 2 (some .boolean) 1 := ⟨inBi 1813 (by decide +kernel), inBi 1815 (by decide +kernel), inBi 77 (by decide +kernel), inBi 106 (by decide +kernel), cw_X12_isSet, by decide +kernel, by decide +kernel, by decide +kernel⟩
set_option maxRecDepth 20000 in
theorem cw_X12_withinAll : Cond.code yX12_withinAll cX12_withinAll 4 (some .int) ∈ BIG := inB (List.mem_of_getElem? (i := 1828) rfl) rfl
theorem mv_X12_401 : MV RX12 401 yX12_withinAll cX12_withinAll 4 (some .int) 1 := ⟨inBi 1825 (by decide +kernel), inBi 1827 (by decide +kernel), inBi 79 (by decide +kernel), inBi 106 (by decide +kernel), cw_X12_withinAll, by decide +kernel, by decide +kernel, by decide +kernel⟩
set_option maxRecDepth 20000 in
theorem cw_X12_ones : Cond.code yX12_ones cX12_ones 3 (some .int) ∈ BIG := inB (List.mem_of_getElem? (i := 1835) rfl) rfl
theorem ms_X12_404 : MS RX12 404 yX12_ones cX12_ones 3 (some .int) 1 := ⟨Or.inl (inBi 1833 (by decide +kernel)), inBi 1834 (by decide +kernel), inBi 106 (by decide +kernel), cw_X12_ones, by decide +kernel, by decide +kernel, by decide +kernel⟩
set_option maxRecDepth 20000 in
theorem cw_X12_size : Cond.code yX12_size cX12_size 1 (some .int) ∈ BIG := inB (List.mem_of_getElem? (i := 1842) rfl) rfl
theorem ms_X12_407 : MS RX12 407 yX12_size cX12_size 1 (some .int) 1 := ⟨Or.inl (inBi 1840 (by decide +kernel)), inBi 1841 (by decide +kernel), inBi 106 (by decide +kernel), cw_X12_size, by decide +kernel, by decide +kernel, by decide +kernel⟩
theorem fp_X12_409 : FP RX12 409 12 45 := ⟨RX12, TX12, 50, tyX12, rfl, rfl, by decide, inU_X12, Or.inl (inBi 1401 (by decide +kernel)), tyX12_ok, nmX12, rfl, by decide +kernel⟩
theorem fl_X12_77 : FL RX12 77 12 43 := ⟨RX12, TX12, 50, rfl, rfl, by decide, inU_X12, Or.inl (inBi 1399 (by decide +kernel))⟩
theorem fl_X12_409 : FL RX12 409 12 45 := ⟨RX12, TX12, 50, rfl, rfl, by decide, inU_X12, Or.inl (inBi 1401 (by decide +kernel))⟩
theorem fl_X12_80 : FL RX12 80 12 44 := ⟨RX12, TX12, 50, rfl, rfl, by decide, inU_X12, Or.inl (inBi 1400 (by decide +kernel))⟩
set_option maxRecDepth 20000 in
theorem cw_X12_laysFits : Cond.code yX12_laysFits cX12_laysFits 5 none ∈ BIG := inB (List.mem_of_getElem? (i := 1850) rfl) rfl
theorem mv_X12_412 : MV RX12 412 yX12_laysFits cX12_laysFits 5 none 0 := ⟨inBi 1847 (by decide +kernel), inBi 1849 (by decide +kernel), inBi 80 (by decide +kernel), inBi 106 (by decide +kernel), cw_X12_laysFits, by decide +kernel, by decide +kernel, by decide +kernel⟩
theorem fl_X12_83 : FL RX12 83 12 46 := ⟨RX12, TX12, 50, rfl, rfl, by decide, inU_X12, Or.inl (inBi 1402 (by decide +kernel))⟩
set_option maxRecDepth 20000 in
theorem cw_X12_worstAt : Cond.code yX12_worstAt cX12_worstAt 6 (some .int) ∈ BIG := inB (List.mem_of_getElem? (i := 1862) rfl) rfl
theorem mv_X12_418 : MV RX12 418 yX12_worstAt cX12_worstAt 6 (some .int) 1 := ⟨inBi 1859 (by decide +kernel), inBi 1861 (by decide +kernel), inBi 82 (by decide +kernel), inBi 106 (by decide +kernel), cw_X12_worstAt, by decide +kernel, by decide +kernel, by decide +kernel⟩
set_option maxRecDepth 20000 in
theorem cw_X12_isWritten : Cond.code yX12_isWritten cX12_isWritten 3 (some .boolean) ∈ BIG := inB (List.mem_of_getElem? (i := 1858) rfl) rfl
theorem mv_X12_415 : MV RX12 415 yX12_isWritten cX12_isWritten 3 (some .boolean) 1 := ⟨inBi 1855 (by decide +kernel), inBi 1857 (by decide +kernel), inBi 81 (by decide +kernel), inBi 106 (by decide +kernel), cw_X12_isWritten, by decide +kernel, by decide +kernel, by decide +kernel⟩
set_option maxRecDepth 20000 in
theorem cw_X12_votesOf : Cond.code yX12_votesOf cX12_votesOf 5 (some .int) ∈ BIG := inB (List.mem_of_getElem? (i := 1874) rfl) rfl
theorem mv_X12_421 : MV RX12 421 yX12_votesOf cX12_votesOf 5 (some .int) 2 := ⟨inBi 1871 (by decide +kernel), inBi 1873 (by decide +kernel), inBi 84 (by decide +kernel), inBi 106 (by decide +kernel), cw_X12_votesOf, by decide +kernel, by decide +kernel, by decide +kernel⟩
set_option maxRecDepth 20000 in
theorem cw_X12_isSwing : Cond.code yX12_isSwing cX12_isSwing 5 (some .boolean) ∈ BIG := inB (List.mem_of_getElem? (i := 1870) rfl) rfl
theorem mv_X12_424 : MV RX12 424 yX12_isSwing cX12_isSwing 5 (some .boolean) 4 := ⟨inBi 1867 (by decide +kernel), inBi 1869 (by decide +kernel), inBi 83 (by decide +kernel), inBi 106 (by decide +kernel), cw_X12_isSwing, by decide +kernel, by decide +kernel, by decide +kernel⟩
set_option maxRecDepth 20000 in
theorem cw_X12_least : Cond.code yX12_least cX12_least 11 (some .long) ∈ BIG := inB (List.mem_of_getElem? (i := 1884) rfl) rfl
theorem ms_X12_430 : MS RX12 430 yX12_least cX12_least 11 (some .long) 3 := ⟨Or.inl (inBi 1882 (by decide +kernel)), inBi 1883 (by decide +kernel), inBi 106 (by decide +kernel), cw_X12_least, by decide +kernel, by decide +kernel, by decide +kernel⟩
set_option maxRecDepth 20000 in
theorem cw_X12_allOrders : Cond.code yX12_allOrders cX12_allOrders 3 (some .int) ∈ BIG := inB (List.mem_of_getElem? (i := 1881) rfl) rfl
theorem ms_X12_427 : MS RX12 427 yX12_allOrders cX12_allOrders 3 (some .int) 1 := ⟨Or.inl (inBi 1879 (by decide +kernel)), inBi 1880 (by decide +kernel), inBi 106 (by decide +kernel), cw_X12_allOrders, by decide +kernel, by decide +kernel, by decide +kernel⟩
set_option maxRecDepth 20000 in
theorem cw_X12_hasBy : Cond.code yX12_hasBy cX12_hasBy 4 (some .int) ∈ BIG := inB (List.mem_of_getElem? (i := 1896) rfl) rfl
theorem ms_X12_435 : MS RX12 435 yX12_hasBy cX12_hasBy 4 (some .int) 4 := ⟨Or.inl (inBi 1894 (by decide +kernel)), inBi 1895 (by decide +kernel), inBi 106 (by decide +kernel), cw_X12_hasBy, by decide +kernel, by decide +kernel, by decide +kernel⟩
set_option maxRecDepth 20000 in
theorem cw_X12_bounded : Cond.code yX12_bounded cX12_bounded 3 (some .int) ∈ BIG := inB (List.mem_of_getElem? (i := 1908) rfl) rfl
theorem mv_X12_438 : MV RX12 438 yX12_bounded cX12_bounded 3 (some .int) 2 := ⟨inBi 1905 (by decide +kernel), inBi 1907 (by decide +kernel), inBi 86 (by decide +kernel), inBi 106 (by decide +kernel), cw_X12_bounded, by decide +kernel, by decide +kernel, by decide +kernel⟩
set_option maxRecDepth 20000 in
theorem cw_X12_lightBy : Cond.code yX12_lightBy cX12_lightBy 5 (some .int) ∈ BIG := inB (List.mem_of_getElem? (i := 1904) rfl) rfl
theorem mv_X12_441 : MV RX12 441 yX12_lightBy cX12_lightBy 5 (some .int) 2 := ⟨inBi 1901 (by decide +kernel), inBi 1903 (by decide +kernel), inBi 85 (by decide +kernel), inBi 106 (by decide +kernel), cw_X12_lightBy, by decide +kernel, by decide +kernel, by decide +kernel⟩
set_option maxRecDepth 20000 in
theorem cw_X12_areTogether : Cond.code yX12_areTogether cX12_areTogether 4 (some .boolean) ∈ BIG := inB (List.mem_of_getElem? (i := 1928) rfl) rfl
theorem mv_X12_444 : MV RX12 444 yX12_areTogether cX12_areTogether 4 (some .boolean) 1 := ⟨inBi 1925 (by decide +kernel), inBi 1927 (by decide +kernel), inBi 87 (by decide +kernel), inBi 106 (by decide +kernel), cw_X12_areTogether, by decide +kernel, by decide +kernel, by decide +kernel⟩
set_option maxRecDepth 20000 in
theorem cw_X12_strongestOf : Cond.code yX12_strongestOf cX12_strongestOf 4 (some .int) ∈ BIG := inB (List.mem_of_getElem? (i := 1940) rfl) rfl
theorem mv_X12_447 : MV RX12 447 yX12_strongestOf cX12_strongestOf 4 (some .int) 1 := ⟨inBi 1937 (by decide +kernel), inBi 1939 (by decide +kernel), inBi 88 (by decide +kernel), inBi 106 (by decide +kernel), cw_X12_strongestOf, by decide +kernel, by decide +kernel, by decide +kernel⟩
theorem fl_X12_450 : FL RX12 450 12 47 := ⟨RX12, TX12, 50, rfl, rfl, by decide, inU_X12, Or.inl (inBi 1403 (by decide +kernel))⟩
theorem fp_X12_450 : FP RX12 450 12 47 := ⟨RX12, TX12, 50, tyX12, rfl, rfl, by decide, inU_X12, Or.inl (inBi 1403 (by decide +kernel)), tyX12_ok, nmX12, rfl, by decide +kernel⟩
set_option maxRecDepth 20000 in
theorem cw_X12_draws : Cond.code yX12_draws cX12_draws 2 (some .int) ∈ BIG := inB (List.mem_of_getElem? (i := 1967) rfl) rfl
theorem mv_X12_454 : MV RX12 454 yX12_draws cX12_draws 2 (some .int) 1 := ⟨inBi 1964 (by decide +kernel), inBi 1966 (by decide +kernel), inBi 90 (by decide +kernel), inBi 106 (by decide +kernel), cw_X12_draws, by decide +kernel, by decide +kernel, by decide +kernel⟩
set_option maxRecDepth 20000 in
theorem cw_X12_termGoes : Cond.code yX12_termGoes cX12_termGoes 9 none ∈ BIG := inB (List.mem_of_getElem? (i := 1963) rfl) rfl
theorem mv_X12_460 : MV RX12 460 yX12_termGoes cX12_termGoes 9 none 3 := ⟨inBi 1960 (by decide +kernel), inBi 1962 (by decide +kernel), inBi 89 (by decide +kernel), inBi 106 (by decide +kernel), cw_X12_termGoes, by decide +kernel, by decide +kernel, by decide +kernel⟩
set_option maxRecDepth 20000 in
theorem cw_X12_isTerm : Cond.code yX12_isTerm cX12_isTerm 2 (some .boolean) ∈ BIG := inB (List.mem_of_getElem? (i := 1959) rfl) rfl
theorem ms_X12_457 : MS RX12 457 yX12_isTerm cX12_isTerm 2 (some .boolean) 2 := ⟨Or.inl (inBi 1957 (by decide +kernel)), inBi 1958 (by decide +kernel), inBi 106 (by decide +kernel), cw_X12_isTerm, by decide +kernel, by decide +kernel, by decide +kernel⟩
theorem fl_X12_86 : FL RX12 86 12 48 := ⟨RX12, TX12, 50, rfl, rfl, by decide, inU_X12, Or.inl (inBi 1404 (by decide +kernel))⟩
set_option maxRecDepth 20000 in
theorem cw_X12_keepsRow : Cond.code yX12_keepsRow cX12_keepsRow 6 (some .int) ∈ BIG := inB (List.mem_of_getElem? (i := 1984) rfl) rfl
theorem mv_X12_464 : MV RX12 464 yX12_keepsRow cX12_keepsRow 6 (some .int) 4 := ⟨inBi 1981 (by decide +kernel), inBi 1983 (by decide +kernel), inBi 92 (by decide +kernel), inBi 106 (by decide +kernel), cw_X12_keepsRow, by decide +kernel, by decide +kernel, by decide +kernel⟩
theorem fl_X12_172 : FL RX12 172 12 49 := ⟨RX12, TX12, 50, rfl, rfl, by decide, inU_X12, Or.inl (inBi 1405 (by decide +kernel))⟩
set_option maxRecDepth 20000 in
theorem cw_X12_keepsAll : Cond.code yX12_keepsAll cX12_keepsAll 4 none ∈ BIG := inB (List.mem_of_getElem? (i := 1980) rfl) rfl
theorem mv_X12_468 : MV RX12 468 yX12_keepsAll cX12_keepsAll 4 none 2 := ⟨inBi 1977 (by decide +kernel), inBi 1979 (by decide +kernel), inBi 91 (by decide +kernel), inBi 106 (by decide +kernel), cw_X12_keepsAll, by decide +kernel, by decide +kernel, by decide +kernel⟩
def fX12_told_j170 (sh : Shp) (s0 : Int32) (mm : Mem) : Option (Int32 × Mem) :=
  some (s0, mm)
def fX12_told_j129 (sh : Shp) (s0 : Nat) (s1 : Int32) (mm : Mem) : Option (Int32 × Mem) :=
  (isO sh 12 s0).bind fun _ =>
  (fX12_sumOf sh s0 s1 42 mm).bind fun v1 =>
  some (v1, mm)
def fX12_told_j98 (sh : Shp) (s0 : Int32) (mm : Mem) : Option (Int32 × Mem) :=
  some (s0, mm)
def fX12_told_j75 (sh : Shp) (s0 : Int32) (mm : Mem) : Option (Int32 × Mem) :=
  some (s0, mm)
def fX12_told (sh : Shp) (x0 : Nat) (x1 : Int32) (mm : Mem) : Option (Int32 × Mem) :=
  (wI sh mm 12 x0 0 0).bind fun m2 =>
  (fX12_within x1 0 11).bind fun v3 =>
  (isO sh 12 x0).bind fun _ =>
  bd2 (fX12_may sh x0 v3 1 1 m2) fun v4 m5 =>
  if v4 = 0 then (some (0, m5))
  else ((isO sh 12 x0).bind fun _ =>
  (fX12_take sh x0 m5).bind fun m7 =>
  if 4 ≤ x1 then (if 6 ≤ x1 then (if 9 ≤ x1 then (if x1 = 9 then ((rI sh m7 12 x0 42).bind fun v15 =>
  fX12_told_j170 sh v15 m7)
  else (if x1 = 10 then ((rI sh m7 12 x0 32).bind fun v14 =>
  fX12_told_j170 sh v14 m7)
  else ((isO sh 12 x0).bind fun _ =>
  (fX12_sumOf sh x0 168 6 m7).bind fun v13 =>
  fX12_told_j170 sh v13 m7)))
  else (if x1 = 6 then (fX12_told_j129 sh x0 0 m7)
  else (if x1 = 7 then (fX12_told_j129 sh x0 42 m7)
  else (fX12_told_j129 sh x0 126 m7))))
  else (if x1 = 4 then ((isO sh 12 x0).bind fun _ =>
  (fX12_whites sh x0 m7).bind fun v20 =>
  fX12_told_j98 sh v20 m7)
  else ((isO sh 12 x0).bind fun _ =>
  (fX12_scattered sh x0 m7).bind fun v19 =>
  fX12_told_j98 sh v19 m7)))
  else (if x1 = 0 then ((rI sh m7 12 x0 17).bind fun v28 =>
  fX12_told_j75 sh v28 m7)
  else (if x1 = 1 then ((rI sh m7 12 x0 18).bind fun v27 =>
  fX12_told_j75 sh v27 m7)
  else (if x1 = 2 then ((rI sh m7 12 x0 19).bind fun v26 =>
  fX12_told_j75 sh v26 m7)
  else ((rR sh 12 x0 37).bind fun a24 =>
  (aL sh m7 a24 174).bind fun v25 =>
  fX12_told_j75 sh v25 m7)))))
def fX12_isFellow (sh : Shp) (x0 : Nat) (x1 : Int32) (x2 : Int32) (mm : Mem) : Option (Int32 × Mem) :=
  (rI sh mm 12 x0 17).bind fun v1 =>
  (fX12_within x1 0 (v1 - 1)).bind fun v2 =>
  (isO sh 12 x0).bind fun _ =>
  bd2 (fX12_may sh x0 v2 x2 0 mm) fun v3 m4 =>
  (ckZ v3).bind fun v5 => some (v5, m4)
def fX12_isGlass (sh : Shp) (x0 : Nat) (x1 : Int32) (x2 : Int32) (mm : Mem) : Option (Int32 × Mem) :=
  (rI sh mm 12 x0 18).bind fun v1 =>
  (fX12_within x1 0 (v1 - 1)).bind fun v2 =>
  (isO sh 12 x0).bind fun _ =>
  bd2 (fX12_may sh x0 v2 x2 0 mm) fun v3 m4 =>
  (ckZ v3).bind fun v5 => some (v5, m4)
def fX12_darkOf_j55 (sh : Shp) (x2 : Int32) (mm : Mem) : Option (Int32) :=
  some x2
def fX12_darkOf_j47 (sh : Shp) (x0 : Nat) (x1 : Int32) (x3 : Int32) (s0 : Int32) (s1 : Int32) (mm : Mem) : Option ((Int32 × Int32) ⊕ ((Int32))) :=
  lt1 (s0 ||| s1) fun x2_3 =>
  lt1 (x3 + 1) fun x3_4 =>
  some (.inl (x2_3, x3_4))
def fX12_darkOf_j46 (sh : Shp) (x0 : Nat) (x1 : Int32) (x3 : Int32) (s0 : Int32) (mm : Mem) : Option ((Int32 × Int32) ⊕ ((Int32))) :=
  fX12_darkOf_j47 sh x0 x1 x3 s0 0 mm
def fX12_darkOf_b4 (sh : Shp) (x0 : Nat) (x1 : Int32) (x2 : Int32) (x3 : Int32) (mm : Mem) : Option ((Int32 × Int32) ⊕ ((Int32))) :=
  if 7 ≤ x3 then (some (.inr x2))
  else ((rR sh 12 x0 37).bind fun a6 =>
  (fX12_in 0 x1 x3).bind fun v7 =>
  (aL sh mm a6 v7).bind fun v8 =>
  if v8 = 0 then ((rR sh 12 x0 37).bind fun a10 =>
  (fX12_in 42 x1 x3).bind fun v11 =>
  (aL sh mm a10 v11).bind fun v12 =>
  if v12 = 0 then (fX12_darkOf_j47 sh x0 x1 x3 x2 (1 <<< (x3 &&& 31)) mm)
  else (fX12_darkOf_j46 sh x0 x1 x3 x2 mm))
  else (fX12_darkOf_j46 sh x0 x1 x3 x2 mm))
def fX12_darkOf (sh : Shp) (x0 : Nat) (x1 : Int32) (mm : Mem) : Option (Int32) :=
  lt1 0 fun x2_1 =>
  lt1 0 fun x3_2 =>
  (loopN (fun st : Int32 × Int32 => fX12_darkOf_b4 sh x0 x1 st.1 st.2 mm) FU (x2_1, x3_2)).bind (fun t => fX12_darkOf_j55 sh t mm)
def fX12_spotOf_j83 (sh : Shp) (x3 : Int32) (mm : Mem) : Option (Int32) :=
  some x3
def fX12_spotOf_j77 (sh : Shp) (x0 : Nat) (x1 : Int32) (x2 : Int32) (x3 : Int32) (x4 : Int32) (mm : Mem) : Option ((Int32 × Int32) ⊕ ((Int32))) :=
  lt1 (x4 + 1) fun x4_3 =>
  some (.inl (x3, x4_3))
def fX12_spotOf_j76 (sh : Shp) (x0 : Nat) (x1 : Int32) (x2 : Int32) (x4 : Int32) (s0 : Int32) (mm : Mem) : Option ((Int32 × Int32) ⊕ ((Int32))) :=
  lt1 s0 fun x3_4 =>
  fX12_spotOf_j77 sh x0 x1 x2 x3_4 x4 mm
def fX12_spotOf_j70 (sh : Shp) (x0 : Nat) (x1 : Int32) (x2 : Int32) (x4 : Int32) (x5 : Int32) (mm : Mem) : Option ((Int32 × Int32) ⊕ ((Int32))) :=
  fX12_spotOf_j76 sh x0 x1 x2 x4 x5 mm
def fX12_spotOf_j75 (sh : Shp) (x0 : Nat) (x1 : Int32) (x2 : Int32) (x3 : Int32) (x4 : Int32) (mm : Mem) : Option ((Int32 × Int32) ⊕ ((Int32))) :=
  fX12_spotOf_j76 sh x0 x1 x2 x4 x3 mm
def fX12_spotOf_b5 (sh : Shp) (x0 : Nat) (x1 : Int32) (x2 : Int32) (x3 : Int32) (x4 : Int32) (mm : Mem) : Option ((Int32 × Int32) ⊕ ((Int32))) :=
  if 7 ≤ x4 then (some (.inr x3))
  else ((rR sh 12 x0 37).bind fun a6 =>
  (fX12_in 42 x1 x4).bind fun v7 =>
  (aL sh mm a6 v7).bind fun v8 =>
  if v8 = 0 then (fX12_spotOf_j77 sh x0 x1 x2 x3 x4 mm)
  else ((rR sh 12 x0 37).bind fun a10 =>
  (fX12_in 84 x1 x4).bind fun v11 =>
  (aL sh mm a10 v11).bind fun v12 =>
  lt1 v12 fun x5_13 =>
  if x3 = (-1) then (fX12_spotOf_j70 sh x0 x1 x2 x4 x5_13 mm)
  else (if x2 = 0 then (if x3 ≤ x5_13 then (fX12_spotOf_j75 sh x0 x1 x2 x3 x4 mm)
  else (fX12_spotOf_j70 sh x0 x1 x2 x4 x5_13 mm))
  else (if x5_13 ≤ x3 then (fX12_spotOf_j75 sh x0 x1 x2 x3 x4 mm)
  else (fX12_spotOf_j70 sh x0 x1 x2 x4 x5_13 mm)))))
def fX12_spotOf (sh : Shp) (x0 : Nat) (x1 : Int32) (x2 : Int32) (mm : Mem) : Option (Int32) :=
  lt1 (-1) fun x3_1 =>
  lt1 0 fun x4_2 =>
  (loopN (fun st : Int32 × Int32 => fX12_spotOf_b5 sh x0 x1 x2 st.1 st.2 mm) FU (x3_1, x4_2)).bind (fun t => fX12_spotOf_j83 sh t mm)
def fX12_fellow_j30 (sh : Shp) (mm : Mem) : Option (Int32 × Mem) :=
  some (0, mm)
def fX12_fellow_j127 (sh : Shp) (s0 : Int32) (mm : Mem) : Option (Int32 × Mem) :=
  some (s0, mm)
def fX12_fellow_j76 (sh : Shp) (s0 : Int32) (mm : Mem) : Option (Int32 × Mem) :=
  some (s0, mm)
def fX12_fellow_j66 (sh : Shp) (x1 : Int32) (s0 : Nat) (s1 : Int32) (mm : Mem) : Option (Int32 × Mem) :=
  (fX12_in s1 x1 0).bind fun v1 =>
  (isO sh 12 s0).bind fun _ =>
  (fX12_sumOf sh s0 v1 7 mm).bind fun v2 =>
  fX12_fellow_j76 sh v2 mm
def fX12_fellow (sh : Shp) (x0 : Nat) (x1 : Int32) (x2 : Int32) (mm : Mem) : Option (Int32 × Mem) :=
  (wI sh mm 12 x0 0 0).bind fun m3 =>
  (isO sh 12 x0).bind fun _ =>
  bd2 (fX12_isFellow sh x0 x1 1 m3) fun v4 m5 =>
  if v4 = 0 then (fX12_fellow_j30 sh m5)
  else ((fX12_within x2 0 7).bind fun v7 =>
  (isO sh 12 x0).bind fun _ =>
  bd2 (fX12_may sh x0 v7 2 1 m5) fun v8 m9 =>
  if v8 = 0 then (fX12_fellow_j30 sh m9)
  else ((isO sh 12 x0).bind fun _ =>
  (fX12_take sh x0 m9).bind fun m11 =>
  if 3 ≤ x2 then (if 6 ≤ x2 then ((isO sh 12 x0).bind fun _ =>
  (fX12_spotOf sh x0 x1 (x2 - 6) m11).bind fun v14 =>
  some (v14, m11))
  else (if x2 = 3 then ((isO sh 12 x0).bind fun _ =>
  (fX12_darkOf sh x0 x1 m11).bind fun v21 =>
  fX12_fellow_j127 sh v21 m11)
  else (if x2 = 5 then ((rR sh 12 x0 37).bind fun a19 =>
  (aL sh m11 a19 (168 + x1)).bind fun v20 =>
  fX12_fellow_j127 sh v20 m11)
  else ((isO sh 12 x0).bind fun _ =>
  (fX12_isWhite sh x0 x1 m11).bind fun v17 =>
  if v17 = 0 then (fX12_fellow_j127 sh 0 m11)
  else (fX12_fellow_j127 sh 1 m11)))))
  else (if x2 = 0 then ((isO sh 12 x0).bind fun _ =>
  (fX12_withinOf sh x0 x1 m11).bind fun v24 =>
  fX12_fellow_j76 sh v24 m11)
  else (if x2 = 1 then (fX12_fellow_j66 sh x1 x0 42 m11)
  else (fX12_fellow_j66 sh x1 x0 126 m11)))))
def fX12_isPart_j15 (s0 : Int32) : Option (Int32) :=
  (ckZ s0).bind fun v1 => some v1
def fX12_isPart_j14 : Option (Int32) :=
  fX12_isPart_j15 0
def fX12_isPart (x0 : Int32) : Option (Int32) :=
  if x0 < 0 then (fX12_isPart_j14 )
  else (if 7 ≤ x0 then (fX12_isPart_j14 )
  else (fX12_isPart_j15 1))
def fX12_part_j44 (sh : Shp) (mm : Mem) : Option (Int32 × Mem) :=
  some (0, mm)
def fX12_part_j107 (sh : Shp) (x1 : Int32) (x2 : Int32) (s0 : Nat) (s1 : Int32) (mm : Mem) : Option (Int32 × Mem) :=
  (fX12_in s1 x1 x2).bind fun v1 =>
  (aL sh mm s0 v1).bind fun v2 =>
  some (v2, mm)
def fX12_part_j82 (sh : Shp) (s0 : Int32) (mm : Mem) : Option (Int32 × Mem) :=
  some (s0, mm)
def fX12_part_j36 (sh : Shp) (x0 : Nat) (x1 : Int32) (x2 : Int32) (x3 : Int32) (s0 : Nat) (s1 : Int32) (mm : Mem) : Option (Int32 × Mem) :=
  (isO sh 12 s0).bind fun _ =>
  bd2 (fX12_may sh s0 s1 2 1 mm) fun v3 m4 =>
  if v3 = 0 then (fX12_part_j44 sh m4)
  else (if x3 = 2 then ((rR sh 12 x0 36).bind fun a10 =>
  (fX12_in 42 x1 x2).bind fun v11 =>
  (aL sh m4 a10 v11).bind fun v12 =>
  if v12 = 0 then (fX12_part_j82 sh (-1) m4)
  else ((rR sh 12 x0 36).bind fun a14 =>
  (fX12_in 84 x1 x2).bind fun v15 =>
  (aL sh m4 a14 v15).bind fun v16 =>
  fX12_part_j82 sh v16 m4))
  else ((rR sh 12 x0 36).bind fun a7 =>
  if x3 = 0 then (fX12_part_j107 sh x1 x2 a7 0 m4)
  else (if x3 = 1 then (fX12_part_j107 sh x1 x2 a7 42 m4)
  else (fX12_part_j107 sh x1 x2 a7 126 m4))))
def fX12_part_j35 (sh : Shp) (x0 : Nat) (x1 : Int32) (x2 : Int32) (x3 : Int32) (s0 : Nat) (mm : Mem) : Option (Int32 × Mem) :=
  fX12_part_j36 sh x0 x1 x2 x3 s0 0 mm
def fX12_part (sh : Shp) (x0 : Nat) (x1 : Int32) (x2 : Int32) (x3 : Int32) (mm : Mem) : Option (Int32 × Mem) :=
  (wI sh mm 12 x0 0 0).bind fun m17 =>
  (isO sh 12 x0).bind fun _ =>
  bd2 (fX12_isFellow sh x0 x1 1 m17) fun v18 m19 =>
  if v18 = 0 then (fX12_part_j44 sh m19)
  else ((fX12_isPart x2).bind fun v21 =>
  if v21 = 0 then (fX12_part_j35 sh x0 x1 x2 x3 x0 m19)
  else ((fX12_within x3 0 3).bind fun v23 =>
  if v23 = 0 then (fX12_part_j35 sh x0 x1 x2 x3 x0 m19)
  else (fX12_part_j36 sh x0 x1 x2 x3 x0 1 m19)))
def fX12_glass_j29 (sh : Shp) (mm : Mem) : Option (Int32 × Mem) :=
  some (0, mm)
def fX12_glass (sh : Shp) (x0 : Nat) (x1 : Int32) (x2 : Int32) (mm : Mem) : Option (Int32 × Mem) :=
  (wI sh mm 12 x0 0 0).bind fun m1 =>
  (isO sh 12 x0).bind fun _ =>
  bd2 (fX12_isGlass sh x0 x1 1 m1) fun v2 m3 =>
  if v2 = 0 then (fX12_glass_j29 sh m3)
  else ((fX12_within x2 0 1).bind fun v5 =>
  (isO sh 12 x0).bind fun _ =>
  bd2 (fX12_may sh x0 v5 2 1 m3) fun v6 m7 =>
  if v6 = 0 then (fX12_glass_j29 sh m7)
  else ((rR sh 12 x0 13).bind fun a9 =>
  (aL sh m7 a9 ((2 * x1) + x2)).bind fun v10 =>
  some (v10, m7)))
def fX12_atPlace_j45 (sh : Shp) (x2 : Int32) (mm : Mem) : Option (Int32) :=
  some x2
def fX12_atPlace_j37 (sh : Shp) (x0 : Nat) (x1 : Int32) (x3 : Int32) (s0 : Int32) (s1 : Int32) (mm : Mem) : Option ((Int32 × Int32) ⊕ ((Int32))) :=
  lt1 (s0 + s1) fun x2_3 =>
  lt1 (x3 + 1) fun x3_4 =>
  some (.inl (x2_3, x3_4))
def fX12_atPlace_b4 (sh : Shp) (x0 : Nat) (x1 : Int32) (x2 : Int32) (x3 : Int32) (mm : Mem) : Option ((Int32 × Int32) ⊕ ((Int32))) :=
  if 42 ≤ x3 then (some (.inr x2))
  else ((rR sh 12 x0 37).bind fun a6 =>
  (aL sh mm a6 (84 + x3)).bind fun v7 =>
  if v7 = x1 then ((rR sh 12 x0 37).bind fun a9 =>
  (aL sh mm a9 (42 + x3)).bind fun v10 =>
  fX12_atPlace_j37 sh x0 x1 x3 x2 v10 mm)
  else (fX12_atPlace_j37 sh x0 x1 x3 x2 0 mm))
def fX12_atPlace (sh : Shp) (x0 : Nat) (x1 : Int32) (mm : Mem) : Option (Int32) :=
  lt1 0 fun x2_1 =>
  lt1 0 fun x3_2 =>
  (loopN (fun st : Int32 × Int32 => fX12_atPlace_b4 sh x0 x1 st.1 st.2 mm) FU (x2_1, x3_2)).bind (fun t => fX12_atPlace_j45 sh t mm)
def fX12_place (sh : Shp) (x0 : Nat) (x1 : Int32) (mm : Mem) : Option (Int32 × Mem) :=
  (wI sh mm 12 x0 0 0).bind fun m1 =>
  (rI sh m1 12 x0 19).bind fun v2 =>
  (fX12_within x1 0 (v2 - 1)).bind fun v3 =>
  (isO sh 12 x0).bind fun _ =>
  bd2 (fX12_may sh x0 v3 1 1 m1) fun v4 m5 =>
  if v4 = 0 then (some (0, m5))
  else ((isO sh 12 x0).bind fun _ =>
  (fX12_take sh x0 m5).bind fun m7 =>
  (isO sh 12 x0).bind fun _ =>
  (fX12_atPlace sh x0 x1 m7).bind fun v8 =>
  some (v8, m7))
def fX12_turn_j36 (sh : Shp) (mm : Mem) : Option (Int32 × Mem) :=
  some (0, mm)
def fX12_turn (sh : Shp) (x0 : Nat) (x1 : Int32) (x2 : Int32) (x3 : Int32) (mm : Mem) : Option (Int32 × Mem) :=
  (wI sh mm 12 x0 0 0).bind fun m1 =>
  (isO sh 12 x0).bind fun _ =>
  bd2 (fX12_isFellow sh x0 x1 1 m1) fun v2 m3 =>
  if v2 = 0 then (fX12_turn_j36 sh m3)
  else ((isO sh 12 x0).bind fun _ =>
  bd2 (fX12_isGlass sh x0 x3 1 m3) fun v5 m6 =>
  if v5 = 0 then (fX12_turn_j36 sh m6)
  else ((fX12_isPart x2).bind fun v8 =>
  (isO sh 12 x0).bind fun _ =>
  bd2 (fX12_may sh x0 v8 2 1 m6) fun v9 m10 =>
  if v9 = 0 then (fX12_turn_j36 sh m10)
  else ((isO sh 12 x0).bind fun _ =>
  (fX12_take sh x0 m10).bind fun m12 =>
  (rR sh 12 x0 37).bind fun a13 =>
  (fX12_in 0 x1 x2).bind fun v14 =>
  (aL sh m12 a13 v14).bind fun v15 =>
  (isO sh 12 x0).bind fun _ =>
  bd2 (fX12_turnsBy sh x0 x1 x2 x3 v15 m12) fun v16 m17 =>
  some (v16, m17))))
def fX12_would_j97 (sh : Shp) (x0 : Nat) (x1 : Int32) (x2 : Int32) (x3 : Int32) (x4 : Int32) (x5 : Int32) (x6 : Int32) (x7 : Int32) (x8 : Int32) (s0 : Nat) (s1 : Int32) (mm : Mem) : Option (Int32 × Mem) :=
  (isO sh 12 s0).bind fun _ =>
  bd2 (fX12_may sh s0 s1 1 1 mm) fun v1 m2 =>
  if v1 = 0 then (some (0, m2))
  else ((isO sh 12 x0).bind fun _ =>
  bd2 (fX12_turnsOf sh x0 x1 x2 x3 x4 x5 x6 x7 x8 m2) fun v4 m5 =>
  some (v4, m5))
def fX12_would_j96 (sh : Shp) (x0 : Nat) (x1 : Int32) (x2 : Int32) (x3 : Int32) (x4 : Int32) (x5 : Int32) (x6 : Int32) (x7 : Int32) (x8 : Int32) (s0 : Nat) (mm : Mem) : Option (Int32 × Mem) :=
  fX12_would_j97 sh x0 x1 x2 x3 x4 x5 x6 x7 x8 s0 0 mm
def fX12_would (sh : Shp) (x0 : Nat) (x1 : Int32) (x2 : Int32) (x3 : Int32) (x4 : Int32) (x5 : Int32) (x6 : Int32) (x7 : Int32) (x8 : Int32) (mm : Mem) : Option (Int32 × Mem) :=
  (wI sh mm 12 x0 0 0).bind fun m6 =>
  (fX12_isPart x1).bind fun v7 =>
  if v7 = 0 then (fX12_would_j96 sh x0 x1 x2 x3 x4 x5 x6 x7 x8 x0 m6)
  else ((fX12_within x2 0 400).bind fun v9 =>
  if v9 = 0 then (fX12_would_j96 sh x0 x1 x2 x3 x4 x5 x6 x7 x8 x0 m6)
  else ((fX12_within x3 1 9).bind fun v11 =>
  if v11 = 0 then (fX12_would_j96 sh x0 x1 x2 x3 x4 x5 x6 x7 x8 x0 m6)
  else ((fX12_within x4 0 2800).bind fun v13 =>
  if v13 = 0 then (fX12_would_j96 sh x0 x1 x2 x3 x4 x5 x6 x7 x8 x0 m6)
  else ((fX12_within x5 0 400).bind fun v15 =>
  if v15 = 0 then (fX12_would_j96 sh x0 x1 x2 x3 x4 x5 x6 x7 x8 x0 m6)
  else ((fX12_within x6 0 999).bind fun v17 =>
  if v17 = 0 then (fX12_would_j96 sh x0 x1 x2 x3 x4 x5 x6 x7 x8 x0 m6)
  else ((fX12_within x7 0 400).bind fun v19 =>
  if v19 = 0 then (fX12_would_j96 sh x0 x1 x2 x3 x4 x5 x6 x7 x8 x0 m6)
  else ((fX12_within x8 0 5).bind fun v21 =>
  if v21 = 0 then (fX12_would_j96 sh x0 x1 x2 x3 x4 x5 x6 x7 x8 x0 m6)
  else (fX12_would_j97 sh x0 x1 x2 x3 x4 x5 x6 x7 x8 x0 1 m6))))))))
def fX12_ahead_j80 (sh : Shp) (s0 : Int32) (mm : Mem) : Option (Int32 × Mem) :=
  some (s0, mm)
def fX12_ahead_j61 (sh : Shp) (x0 : Nat) (x2 : Int32) (mm : Mem) : Option (Int32 × Mem) :=
  if x2 = 0 then ((isO sh 12 x0).bind fun _ =>
  (fX12_sumOf sh x0 42 42 mm).bind fun v3 =>
  fX12_ahead_j80 sh v3 mm)
  else ((isO sh 12 x0).bind fun _ =>
  (fX12_scattered sh x0 mm).bind fun v2 =>
  fX12_ahead_j80 sh v2 mm)
def fX12_ahead_b46 (sh : Shp) (x0 : Nat) (x1 : Int32) (x2 : Int32) (x3 : Int32) (mm : Mem) : Option ((Int32 × Mem) ⊕ ((Mem))) :=
  if x1 ≤ x3 then (some (.inr mm))
  else ((isO sh 12 x0).bind fun _ =>
  (fX12_passes sh x0 mm).bind fun m10 =>
  lt1 (x3 + 1) fun x3_11 =>
  some (.inl (x3_11, m10)))
def fX12_ahead_j30 (sh : Shp) (x0 : Nat) (x1 : Int32) (x2 : Int32) (s0 : Nat) (s1 : Int32) (mm : Mem) : Option (Int32 × Mem) :=
  (isO sh 12 s0).bind fun _ =>
  bd2 (fX12_may sh s0 s1 1 1 mm) fun v4 m5 =>
  if v4 = 0 then (some (0, m5))
  else ((isO sh 12 x0).bind fun _ =>
  (fX12_take sh x0 m5).bind fun m7 =>
  lt1 0 fun x3_8 =>
  (loopN (fun st : Int32 × Mem => fX12_ahead_b46 sh x0 x1 x2 st.1 st.2) FU (x3_8, m7)).bind (fun t => fX12_ahead_j61 sh x0 x2 t))
def fX12_ahead_j29 (sh : Shp) (x0 : Nat) (x1 : Int32) (x2 : Int32) (s0 : Nat) (mm : Mem) : Option (Int32 × Mem) :=
  fX12_ahead_j30 sh x0 x1 x2 s0 0 mm
def fX12_ahead (sh : Shp) (x0 : Nat) (x1 : Int32) (x2 : Int32) (mm : Mem) : Option (Int32 × Mem) :=
  (wI sh mm 12 x0 0 0).bind fun m12 =>
  (fX12_within x1 0 99).bind fun v13 =>
  if v13 = 0 then (fX12_ahead_j29 sh x0 x1 x2 x0 m12)
  else ((fX12_within x2 0 1).bind fun v15 =>
  if v15 = 0 then (fX12_ahead_j29 sh x0 x1 x2 x0 m12)
  else (fX12_ahead_j30 sh x0 x1 x2 x0 1 m12))
def fX12_spreadOf_j97 (sh : Shp) (x2 : Int32) (x3 : Int32) (mm : Mem) : Option (Int32) :=
  some (x3 - x2)
def fX12_spreadOf_j90 (sh : Shp) (x0 : Nat) (x1 : Int32) (x2 : Int32) (x4 : Int32) (s0 : Int32) (mm : Mem) : Option ((Int32 × Int32 × Int32) ⊕ ((Int32 × Int32))) :=
  lt1 s0 fun x3_4 =>
  lt1 (x4 + 1) fun x4_5 =>
  some (.inl (x2, x3_4, x4_5))
def fX12_spreadOf_j77 (sh : Shp) (x0 : Nat) (x1 : Int32) (x3 : Int32) (x4 : Int32) (x5 : Int32) (s0 : Int32) (mm : Mem) : Option ((Int32 × Int32 × Int32) ⊕ ((Int32 × Int32))) :=
  lt1 s0 fun x2_6 =>
  if x5 ≤ x3 then (fX12_spreadOf_j90 sh x0 x1 x2_6 x4 x3 mm)
  else (fX12_spreadOf_j90 sh x0 x1 x2_6 x4 x5 mm)
def fX12_spreadOf_j71 (sh : Shp) (x0 : Nat) (x1 : Int32) (x3 : Int32) (x4 : Int32) (x5 : Int32) (mm : Mem) : Option ((Int32 × Int32 × Int32) ⊕ ((Int32 × Int32))) :=
  fX12_spreadOf_j77 sh x0 x1 x3 x4 x5 x5 mm
def fX12_spreadOf_j60 (sh : Shp) (x0 : Nat) (x1 : Int32) (x2 : Int32) (x3 : Int32) (x4 : Int32) (x5 : Int32) (mm : Mem) : Option ((Int32 × Int32 × Int32) ⊕ ((Int32 × Int32))) :=
  if x4 = 0 then (fX12_spreadOf_j71 sh x0 x1 x3 x4 x5 mm)
  else (if x2 ≤ x5 then (fX12_spreadOf_j77 sh x0 x1 x3 x4 x5 x2 mm)
  else (fX12_spreadOf_j71 sh x0 x1 x3 x4 x5 mm))
def fX12_spreadOf_b20 (sh : Shp) (x0 : Nat) (x1 : Int32) (x2 : Int32) (x3 : Int32) (x4 : Int32) (x5 : Int32) (x6 : Int32) (mm : Mem) : Option ((Int32 × Int32) ⊕ ((Int32))) :=
  (rI sh mm 12 x0 17).bind fun v13 =>
  if v13 ≤ x6 then (some (.inr x5))
  else ((rR sh 12 x0 37).bind fun a15 =>
  (fX12_in 0 x6 x4).bind fun v16 =>
  (aL sh mm a15 v16).bind fun v17 =>
  lt1 (x5 + (((x1 >>> (x6 &&& 31)) &&& 1) * v17)) fun x5_18 =>
  lt1 (x6 + 1) fun x6_19 =>
  some (.inl (x5_18, x6_19)))
def fX12_spreadOf_b7 (sh : Shp) (x0 : Nat) (x1 : Int32) (x2 : Int32) (x3 : Int32) (x4 : Int32) (mm : Mem) : Option ((Int32 × Int32 × Int32) ⊕ ((Int32 × Int32))) :=
  if 7 ≤ x4 then (some (.inr (x2, x3)))
  else (lt1 0 fun x5_11 =>
  lt1 0 fun x6_12 =>
  (loopN (fun st : Int32 × Int32 => fX12_spreadOf_b20 sh x0 x1 x2 x3 x4 st.1 st.2 mm) FU (x5_11, x6_12)).bind (fun t => fX12_spreadOf_j60 sh x0 x1 x2 x3 x4 t mm))
def fX12_spreadOf (sh : Shp) (x0 : Nat) (x1 : Int32) (mm : Mem) : Option (Int32) :=
  lt1 0 fun x2_1 =>
  lt1 0 fun x3_2 =>
  lt1 0 fun x4_3 =>
  (loopN (fun st : Int32 × Int32 × Int32 => fX12_spreadOf_b7 sh x0 x1 st.1 st.2.1 st.2.2 mm) FU (x2_1, x3_2, x4_3)).bind (fun t => fX12_spreadOf_j97 sh t.1 t.2 mm)
def fX12_withinAll_j32 (sh : Shp) (x2 : Int32) (mm : Mem) : Option (Int32) :=
  some x2
def fX12_withinAll_b4 (sh : Shp) (x0 : Nat) (x1 : Int32) (x2 : Int32) (x3 : Int32) (mm : Mem) : Option ((Int32 × Int32) ⊕ ((Int32))) :=
  (rI sh mm 12 x0 17).bind fun v3 =>
  if v3 ≤ x3 then (some (.inr x2))
  else ((isO sh 12 x0).bind fun _ =>
  (fX12_withinOf sh x0 x3 mm).bind fun v5 =>
  lt1 (x2 + (((x1 >>> (x3 &&& 31)) &&& 1) * v5)) fun x2_6 =>
  lt1 (x3 + 1) fun x3_7 =>
  some (.inl (x2_6, x3_7)))
def fX12_withinAll (sh : Shp) (x0 : Nat) (x1 : Int32) (mm : Mem) : Option (Int32) :=
  lt1 0 fun x2_1 =>
  lt1 0 fun x3_2 =>
  (loopN (fun st : Int32 × Int32 => fX12_withinAll_b4 sh x0 x1 st.1 st.2 mm) FU (x2_1, x3_2)).bind (fun t => fX12_withinAll_j32 sh t mm)
def fX12_isSet_j19 (sh : Shp) (s0 : Int32) (mm : Mem) : Option (Int32) :=
  (ckZ s0).bind fun v1 => some v1
def fX12_isSet_j18 (sh : Shp) (mm : Mem) : Option (Int32) :=
  fX12_isSet_j19 sh 0 mm
def fX12_isSet (sh : Shp) (x0 : Nat) (x1 : Int32) (mm : Mem) : Option (Int32) :=
  if x1 < 0 then (fX12_isSet_j18 sh mm)
  else ((rI sh mm 12 x0 17).bind fun v3 =>
  if (1 <<< (v3 &&& 31)) ≤ x1 then (fX12_isSet_j18 sh mm)
  else (fX12_isSet_j19 sh 1 mm))
def fX12_spread (sh : Shp) (x0 : Nat) (x1 : Int32) (mm : Mem) : Option (Int32 × Mem) :=
  (wI sh mm 12 x0 0 0).bind fun m1 =>
  (isO sh 12 x0).bind fun _ =>
  (fX12_isSet sh x0 x1 m1).bind fun v2 =>
  (isO sh 12 x0).bind fun _ =>
  bd2 (fX12_may sh x0 v2 1 1 m1) fun v3 m4 =>
  if v3 = 0 then (some (0, m4))
  else ((isO sh 12 x0).bind fun _ =>
  (fX12_take sh x0 m4).bind fun m6 =>
  (isO sh 12 x0).bind fun _ =>
  (fX12_spreadOf sh x0 x1 m6).bind fun v7 =>
  some (v7, m6))
def fX12_bow_j122 (sh : Shp) (s0 : Int32) (mm : Mem) : Option (Int32 × Mem) :=
  some (s0, mm)
def fX12_bow_j113 (sh : Shp) (x2 : Int32) (mm : Mem) : Option (Int32 × Mem) :=
  fX12_bow_j122 sh x2 mm
def fX12_bow_j104 (sh : Shp) (x0 : Nat) (x1 : Int32) (x2 : Int32) (mm : Mem) : Option (Int32 × Mem) :=
  if x1 = 0 then (fX12_bow_j113 sh x2 mm)
  else (if x2 = (-1) then (fX12_bow_j113 sh x2 mm)
  else ((isO sh 12 x0).bind fun _ =>
  (fX12_spreadOf sh x0 x2 mm).bind fun v3 =>
  fX12_bow_j122 sh v3 mm))
def fX12_bow_j98 (sh : Shp) (x0 : Nat) (x1 : Int32) (x2 : Int32) (x3 : Int32) (mm : Mem) : Option ((Int32 × Int32) ⊕ ((Int32))) :=
  lt1 (x3 + 1) fun x3_12 =>
  some (.inl (x2, x3_12))
def fX12_bow_j96 (sh : Shp) (x0 : Nat) (x1 : Int32) (x3 : Int32) (mm : Mem) : Option ((Int32 × Int32) ⊕ ((Int32))) :=
  lt1 x3 fun x2_13 =>
  fX12_bow_j98 sh x0 x1 x2_13 x3 mm
def fX12_bow_j71 (sh : Shp) (x0 : Nat) (x1 : Int32) (x2 : Int32) (x3 : Int32) (s0 : Int32) (mm : Mem) : Option ((Int32 × Int32) ⊕ ((Int32))) :=
  lt1 s0 fun x4_14 =>
  if x4_14 < 0 then (fX12_bow_j96 sh x0 x1 x3 mm)
  else (if x4_14 = 0 then ((isO sh 12 x0).bind fun _ =>
  (fX12_withinAll sh x0 x3 mm).bind fun v17 =>
  (isO sh 12 x0).bind fun _ =>
  (fX12_withinAll sh x0 x2 mm).bind fun v18 =>
  if v17 ≤ v18 then (fX12_bow_j98 sh x0 x1 x2 x3 mm)
  else (fX12_bow_j96 sh x0 x1 x3 mm))
  else (fX12_bow_j98 sh x0 x1 x2 x3 mm))
def fX12_bow_b30 (sh : Shp) (x0 : Nat) (x1 : Int32) (x2 : Int32) (x3 : Int32) (mm : Mem) : Option ((Int32 × Int32) ⊕ ((Int32))) :=
  (rI sh mm 12 x0 17).bind fun v20 =>
  if (1 <<< (v20 &&& 31)) ≤ x3 then (some (.inr x2))
  else (if (x3 &&& (x3 - 1)) = 0 then (fX12_bow_j98 sh x0 x1 x2 x3 mm)
  else (if x2 = (-1) then (fX12_bow_j71 sh x0 x1 x2 x3 (-1) mm)
  else ((isO sh 12 x0).bind fun _ =>
  (fX12_spreadOf sh x0 x3 mm).bind fun v24 =>
  (isO sh 12 x0).bind fun _ =>
  (fX12_spreadOf sh x0 x2 mm).bind fun v25 =>
  fX12_bow_j71 sh x0 x1 x2 x3 (v24 - v25) mm)))
def fX12_bow (sh : Shp) (x0 : Nat) (x1 : Int32) (mm : Mem) : Option (Int32 × Mem) :=
  (wI sh mm 12 x0 0 0).bind fun m4 =>
  (fX12_within x1 0 1).bind fun v5 =>
  (isO sh 12 x0).bind fun _ =>
  bd2 (fX12_may sh x0 v5 1 1 m4) fun v6 m7 =>
  if v6 = 0 then (some (0, m7))
  else ((isO sh 12 x0).bind fun _ =>
  (fX12_take sh x0 m7).bind fun m9 =>
  lt1 (-1) fun x2_10 =>
  lt1 3 fun x3_11 =>
  (loopN (fun st : Int32 × Int32 => fX12_bow_b30 sh x0 x1 st.1 st.2 m9) FU (x2_10, x3_11)).bind (fun t => fX12_bow_j104 sh x0 x1 t m9))
def fX12_ones_j24 (x1 : Int32) : Option (Int32) :=
  some x1
def fX12_ones_b4 (x0 : Int32) (x1 : Int32) (x2 : Int32) : Option ((Int32 × Int32) ⊕ ((Int32))) :=
  if 8 ≤ x2 then (some (.inr x1))
  else (lt1 (x1 + ((x0 >>> (x2 &&& 31)) &&& 1)) fun x1_4 =>
  lt1 (x2 + 1) fun x2_5 =>
  some (.inl (x1_4, x2_5)))
def fX12_ones (x0 : Int32) : Option (Int32) :=
  lt1 0 fun x1_1 =>
  lt1 0 fun x2_2 =>
  (loopN (fun st : Int32 × Int32 => fX12_ones_b4 x0 st.1 st.2) FU (x1_1, x2_2)).bind (fun t => fX12_ones_j24 t)
def fX12_through_j49 (sh : Shp) (mm : Mem) : Option (Int32 × Mem) :=
  some (0, mm)
def fX12_through_j198 (sh : Shp) (x4 : Int32) (mm : Mem) : Option (Int32 × Mem) :=
  some (x4, mm)
def fX12_through_j192 (sh : Shp) (x0 : Nat) (x1 : Int32) (x2 : Int32) (x3 : Int32) (x4 : Int32) (x5 : Int32) (mm : Mem) : Option ((Int32 × Int32 × Mem) ⊕ ((Int32 × Mem))) :=
  lt1 (x5 + 1) fun x5_7 =>
  some (.inl (x4, x5_7, mm))
def fX12_through_j177 (sh : Shp) (x0 : Nat) (x1 : Int32) (x2 : Int32) (x3 : Int32) (x4 : Int32) (x5 : Int32) (x6 : Int32) (x7 : Int32) (mm : Mem) : Option ((Int32 × Int32 × Mem) ⊕ ((Int32 × Mem))) :=
  if x7 = 0 then (fX12_through_j192 sh x0 x1 x2 x3 x4 x5 mm)
  else (if x6 = x3 then (lt1 x5 fun x4_10 =>
  fX12_through_j192 sh x0 x1 x2 x3 x4_10 x5 mm)
  else (fX12_through_j192 sh x0 x1 x2 x3 x4 x5 mm))
def fX12_through_j171 (sh : Shp) (x0 : Nat) (x1 : Int32) (x2 : Int32) (x3 : Int32) (x4 : Int32) (x5 : Int32) (x6 : Int32) (x7 : Int32) (x8 : Int32) (mm : Mem) : Option ((Int32 × Int32 × Int32 × Mem) ⊕ ((Int32 × Int32 × Mem))) :=
  lt1 (x8 + 1) fun x8_13 =>
  some (.inl (x6, x7, x8_13, mm))
def fX12_through_j145 (sh : Shp) (x0 : Nat) (x1 : Int32) (x2 : Int32) (x3 : Int32) (x4 : Int32) (x5 : Int32) (x6 : Int32) (x8 : Int32) (s0 : Int32) (mm : Mem) : Option ((Int32 × Int32 × Int32 × Mem) ⊕ ((Int32 × Int32 × Mem))) :=
  lt1 s0 fun x7_14 =>
  (rR sh 12 x0 37).bind fun a15 =>
  (fX12_in 0 x1 x2).bind fun v16 =>
  (aL sh mm a15 v16).bind fun v17 =>
  (isO sh 12 x0).bind fun _ =>
  bd2 (fX12_turnsBy sh x0 x1 x2 x8 v17 mm) fun v18 m19 =>
  lt1 (x6 + v18) fun x6_20 =>
  fX12_through_j171 sh x0 x1 x2 x3 x4 x5 x6_20 x7_14 x8 m19
def fX12_through_b104 (sh : Shp) (x0 : Nat) (x1 : Int32) (x2 : Int32) (x3 : Int32) (x4 : Int32) (x5 : Int32) (x6 : Int32) (x7 : Int32) (x8 : Int32) (mm : Mem) : Option ((Int32 × Int32 × Int32 × Mem) ⊕ ((Int32 × Int32 × Mem))) :=
  (rI sh mm 12 x0 18).bind fun v21 =>
  if v21 ≤ x8 then (some (.inr (x6, x7, mm)))
  else (if x7 = 0 then (some (.inr (x6, x7, mm)))
  else (if ((x5 >>> (x8 &&& 31)) &&& 1) = 0 then (fX12_through_j171 sh x0 x1 x2 x3 x4 x5 x6 x7 x8 mm)
  else ((isO sh 12 x0).bind fun _ =>
  (fX12_joinsAll sh x0 x8 mm).bind fun v25 =>
  if v25 = 0 then (fX12_through_j145 sh x0 x1 x2 x3 x4 x5 x6 x8 1 mm)
  else (fX12_through_j145 sh x0 x1 x2 x3 x4 x5 x6 x8 0 mm))))
def fX12_through_j99 (sh : Shp) (x0 : Nat) (x1 : Int32) (x2 : Int32) (x3 : Int32) (x4 : Int32) (x5 : Int32) (x6 : Int32) (s0 : Int32) (mm : Mem) : Option ((Int32 × Int32 × Mem) ⊕ ((Int32 × Mem))) :=
  lt1 s0 fun x7_11 =>
  lt1 0 fun x8_12 =>
  (loopN (fun st : Int32 × Int32 × Int32 × Mem => fX12_through_b104 sh x0 x1 x2 x3 x4 x5 st.1 st.2.1 st.2.2.1 st.2.2.2) FU (x6, x7_11, x8_12, mm)).bind (fun t => fX12_through_j177 sh x0 x1 x2 x3 x4 x5 t.1 t.2.1 t.2.2)
def fX12_through_j94 (sh : Shp) (x0 : Nat) (x1 : Int32) (x2 : Int32) (x3 : Int32) (x4 : Int32) (x5 : Int32) (x6 : Int32) (mm : Mem) : Option ((Int32 × Int32 × Mem) ⊕ ((Int32 × Mem))) :=
  fX12_through_j99 sh x0 x1 x2 x3 x4 x5 x6 1 mm
def fX12_through_b61 (sh : Shp) (x0 : Nat) (x1 : Int32) (x2 : Int32) (x3 : Int32) (x4 : Int32) (x5 : Int32) (mm : Mem) : Option ((Int32 × Int32 × Mem) ⊕ ((Int32 × Mem))) :=
  (rI sh mm 12 x0 18).bind fun v27 =>
  if (1 <<< (v27 &&& 31)) ≤ x5 then (some (.inr (x4, mm)))
  else (lt1 0 fun x6_29 =>
  if x4 = (-1) then (fX12_through_j94 sh x0 x1 x2 x3 x4 x5 x6_29 mm)
  else ((fX12_ones x5).bind fun v31 =>
  (fX12_ones x4).bind fun v32 =>
  if v32 ≤ v31 then (fX12_through_j99 sh x0 x1 x2 x3 x4 x5 x6_29 0 mm)
  else (fX12_through_j94 sh x0 x1 x2 x3 x4 x5 x6_29 mm)))
def fX12_through_j41 (sh : Shp) (x0 : Nat) (x1 : Int32) (x2 : Int32) (x3 : Int32) (s0 : Nat) (s1 : Int32) (mm : Mem) : Option (Int32 × Mem) :=
  (isO sh 12 s0).bind fun _ =>
  bd2 (fX12_may sh s0 s1 2 1 mm) fun v1 m2 =>
  if v1 = 0 then (fX12_through_j49 sh m2)
  else ((isO sh 12 x0).bind fun _ =>
  (fX12_take sh x0 m2).bind fun m4 =>
  lt1 (-1) fun x4_5 =>
  lt1 0 fun x5_6 =>
  (loopN (fun st : Int32 × Int32 × Mem => fX12_through_b61 sh x0 x1 x2 x3 st.1 st.2.1 st.2.2) FU (x4_5, x5_6, m4)).bind (fun t => fX12_through_j198 sh t.1 t.2))
def fX12_through_j40 (sh : Shp) (x0 : Nat) (x1 : Int32) (x2 : Int32) (x3 : Int32) (s0 : Nat) (mm : Mem) : Option (Int32 × Mem) :=
  fX12_through_j41 sh x0 x1 x2 x3 s0 0 mm
def fX12_through (sh : Shp) (x0 : Nat) (x1 : Int32) (x2 : Int32) (x3 : Int32) (mm : Mem) : Option (Int32 × Mem) :=
  (wI sh mm 12 x0 0 0).bind fun m34 =>
  (isO sh 12 x0).bind fun _ =>
  bd2 (fX12_isFellow sh x0 x1 1 m34) fun v35 m36 =>
  if v35 = 0 then (fX12_through_j49 sh m36)
  else ((fX12_isPart x2).bind fun v38 =>
  if v38 = 0 then (fX12_through_j40 sh x0 x1 x2 x3 x0 m36)
  else ((rI sh m36 12 x0 19).bind fun v40 =>
  (fX12_within x3 0 (v40 - 1)).bind fun v41 =>
  if v41 = 0 then (fX12_through_j40 sh x0 x1 x2 x3 x0 m36)
  else (fX12_through_j41 sh x0 x1 x2 x3 x0 1 m36)))
def fX12_size_j10 (s0 : Int32) : Option (Int32) :=
  some s0
def fX12_size (x0 : Int32) : Option (Int32) :=
  if 0 ≤ x0 then (fX12_size_j10 x0)
  else (fX12_size_j10 (-x0))
def fX12_serves_j103 (sh : Shp) (x3 : Int32) (mm : Mem) : Option (Int32 × Mem) :=
  some (x3, mm)
def fX12_serves_j97 (sh : Shp) (x0 : Nat) (x1 : Int32) (x2 : Int32) (x3 : Int32) (x4 : Int32) (mm : Mem) : Option ((Int32 × Int32) ⊕ ((Int32))) :=
  lt1 (x4 + 1) fun x4_6 =>
  some (.inl (x3, x4_6))
def fX12_serves_j94 (sh : Shp) (x0 : Nat) (x1 : Int32) (x2 : Int32) (x4 : Int32) (mm : Mem) : Option ((Int32 × Int32) ⊕ ((Int32))) :=
  lt1 x4 fun x3_7 =>
  fX12_serves_j97 sh x0 x1 x2 x3_7 x4 mm
def fX12_serves_b44 (sh : Shp) (x0 : Nat) (x1 : Int32) (x2 : Int32) (x3 : Int32) (x4 : Int32) (mm : Mem) : Option ((Int32 × Int32) ⊕ ((Int32))) :=
  (rI sh mm 12 x0 17).bind fun v8 =>
  if v8 ≤ x4 then (some (.inr x3))
  else (if x3 = (-1) then (fX12_serves_j94 sh x0 x1 x2 x4 mm)
  else ((rR sh 12 x0 36).bind fun a11 =>
  (fX12_in 0 x4 x1).bind fun v12 =>
  (aL sh mm a11 v12).bind fun v13 =>
  (fX12_size (v13 - x2)).bind fun v14 =>
  (rR sh 12 x0 36).bind fun a15 =>
  (fX12_in 0 x3 x1).bind fun v16 =>
  (aL sh mm a15 v16).bind fun v17 =>
  (fX12_size (v17 - x2)).bind fun v18 =>
  if v18 ≤ v14 then (fX12_serves_j97 sh x0 x1 x2 x3 x4 mm)
  else (fX12_serves_j94 sh x0 x1 x2 x4 mm)))
def fX12_serves_j29 (sh : Shp) (x0 : Nat) (x1 : Int32) (x2 : Int32) (s0 : Nat) (s1 : Int32) (mm : Mem) : Option (Int32 × Mem) :=
  (isO sh 12 s0).bind fun _ =>
  bd2 (fX12_may sh s0 s1 1 1 mm) fun v1 m2 =>
  if v1 = 0 then (some (0, m2))
  else (lt1 (-1) fun x3_4 =>
  lt1 0 fun x4_5 =>
  (loopN (fun st : Int32 × Int32 => fX12_serves_b44 sh x0 x1 x2 st.1 st.2 m2) FU (x3_4, x4_5)).bind (fun t => fX12_serves_j103 sh t m2))
def fX12_serves_j28 (sh : Shp) (x0 : Nat) (x1 : Int32) (x2 : Int32) (s0 : Nat) (mm : Mem) : Option (Int32 × Mem) :=
  fX12_serves_j29 sh x0 x1 x2 s0 0 mm
def fX12_serves (sh : Shp) (x0 : Nat) (x1 : Int32) (x2 : Int32) (mm : Mem) : Option (Int32 × Mem) :=
  (wI sh mm 12 x0 0 0).bind fun m20 =>
  (fX12_isPart x1).bind fun v21 =>
  if v21 = 0 then (fX12_serves_j28 sh x0 x1 x2 x0 m20)
  else ((fX12_within x2 0 400).bind fun v23 =>
  if v23 = 0 then (fX12_serves_j28 sh x0 x1 x2 x0 m20)
  else (fX12_serves_j29 sh x0 x1 x2 x0 1 m20))
def fX12_laysFits_j153 (sh : Shp) (mm : Mem) : Option (Mem) :=
  some mm
def fX12_laysFits_j147 (sh : Shp) (x0 : Nat) (x1 : Int32) (mm : Mem) : Option ((Int32 × Mem) ⊕ ((Mem))) :=
  lt1 (x1 + 1) fun x1_3 =>
  some (.inl (x1_3, mm))
def fX12_laysFits_j141 (sh : Shp) (x0 : Nat) (x1 : Int32) (x2 : Int32) (mm : Mem) : Option ((Int32 × Mem) ⊕ ((Mem))) :=
  lt1 (x2 + 1) fun x2_7 =>
  some (.inl (x2_7, mm))
def fX12_laysFits_j104 (sh : Shp) (x0 : Nat) (x1 : Int32) (x2 : Int32) (x3 : Int32) (mm : Mem) : Option ((Int32 × Mem) ⊕ ((Mem))) :=
  if x3 = 0 then (fX12_laysFits_j141 sh x0 x1 x2 mm)
  else ((rR sh 12 x0 43).bind fun a9 =>
  (rI sh mm 12 x0 45).bind fun v10 =>
  (aS sh mm a9 v10 x1).bind fun m11 =>
  (rR sh 12 x0 44).bind fun a12 =>
  (rI sh m11 12 x0 45).bind fun v13 =>
  (aS sh m11 a12 v13 x2).bind fun m14 =>
  (rI sh m14 12 x0 45).bind fun v15 =>
  (wI sh m14 12 x0 45 (v15 + 1)).bind fun m16 =>
  fX12_laysFits_j141 sh x0 x1 x2 m16)
def fX12_laysFits_j97 (sh : Shp) (x0 : Nat) (x1 : Int32) (x2 : Int32) (x4 : Int32) (s0 : Int32) (mm : Mem) : Option ((Int32 × Int32) ⊕ ((Int32))) :=
  lt1 s0 fun x3_26 =>
  lt1 (x4 + 1) fun x4_27 =>
  some (.inl (x3_26, x4_27))
def fX12_laysFits_j96 (sh : Shp) (x0 : Nat) (x1 : Int32) (x2 : Int32) (x4 : Int32) (mm : Mem) : Option ((Int32 × Int32) ⊕ ((Int32))) :=
  fX12_laysFits_j97 sh x0 x1 x2 x4 0 mm
def fX12_laysFits_b52 (sh : Shp) (x0 : Nat) (x1 : Int32) (x2 : Int32) (x3 : Int32) (x4 : Int32) (mm : Mem) : Option ((Int32 × Int32) ⊕ ((Int32))) :=
  (rI sh mm 12 x0 42).bind fun v28 =>
  if v28 ≤ x4 then (some (.inr x3))
  else (if x3 = 0 then (fX12_laysFits_j96 sh x0 x1 x2 x4 mm)
  else ((rR sh 12 x0 41).bind fun a31 =>
  (aL sh mm a31 (2 * x4)).bind fun v32 =>
  (isO sh 12 x0).bind fun _ =>
  (fX12_atPlace sh x0 v32 mm).bind fun v33 =>
  (rR sh 12 x0 41).bind fun a34 =>
  (aL sh mm a34 ((2 * x4) + 1)).bind fun v35 =>
  if v33 = v35 then (fX12_laysFits_j97 sh x0 x1 x2 x4 1 mm)
  else (fX12_laysFits_j96 sh x0 x1 x2 x4 mm)))
def fX12_laysFits_b17 (sh : Shp) (x0 : Nat) (x1 : Int32) (x2 : Int32) (mm : Mem) : Option ((Int32 × Mem) ⊕ ((Mem))) :=
  (rI sh mm 12 x0 18).bind fun v17 =>
  if v17 ≤ x2 then (some (.inr mm))
  else ((isO sh 12 x0).bind fun _ =>
  (fX12_joinsAll sh x0 x2 mm).bind fun v19 =>
  if v19 = 0 then ((isO sh 12 x0).bind fun _ =>
  (fX12_take sh x0 mm).bind fun m21 =>
  (isO sh 12 x0).bind fun _ =>
  bd2 (fX12_isParted sh x0 x1 x2 m21) fun v22 m23 =>
  lt1 1 fun x3_24 =>
  lt1 0 fun x4_25 =>
  (loopN (fun st : Int32 × Int32 => fX12_laysFits_b52 sh x0 x1 x2 st.1 st.2 m23) FU (x3_24, x4_25)).bind (fun t => fX12_laysFits_j104 sh x0 x1 x2 t m23))
  else (fX12_laysFits_j141 sh x0 x1 x2 mm))
def fX12_laysFits_b7 (sh : Shp) (x0 : Nat) (x1 : Int32) (mm : Mem) : Option ((Int32 × Mem) ⊕ ((Mem))) :=
  (rI sh mm 12 x0 17).bind fun v4 =>
  if v4 ≤ x1 then (some (.inr mm))
  else (lt1 0 fun x2_6 =>
  (loopN (fun st : Int32 × Mem => fX12_laysFits_b17 sh x0 x1 st.1 st.2) FU (x2_6, mm)).bind (fun t => fX12_laysFits_j147 sh x0 x1 t))
def fX12_laysFits (sh : Shp) (x0 : Nat) (mm : Mem) : Option (Mem) :=
  (wI sh mm 12 x0 45 0).bind fun m1 =>
  lt1 0 fun x1_2 =>
  (loopN (fun st : Int32 × Mem => fX12_laysFits_b7 sh x0 st.1 st.2) FU (x1_2, m1)).bind (fun t => fX12_laysFits_j153 sh t)
def fX12_fits_j64 (sh : Shp) (s0 : Int32) (mm : Mem) : Option (Int32 × Mem) :=
  some (s0, mm)
def fX12_fits (sh : Shp) (x0 : Nat) (x1 : Int32) (mm : Mem) : Option (Int32 × Mem) :=
  (wI sh mm 12 x0 0 0).bind fun m1 =>
  (fX12_within x1 0 1).bind fun v2 =>
  (isO sh 12 x0).bind fun _ =>
  bd2 (fX12_may sh x0 v2 1 1 m1) fun v3 m4 =>
  if v3 = 0 then (some (0, m4))
  else ((isO sh 12 x0).bind fun _ =>
  (fX12_laysFits sh x0 m4).bind fun m6 =>
  if x1 = 0 then ((rI sh m6 12 x0 45).bind fun v14 =>
  fX12_fits_j64 sh v14 m6)
  else ((rI sh m6 12 x0 45).bind fun v8 =>
  if v8 = 0 then (fX12_fits_j64 sh (-1) m6)
  else ((rR sh 12 x0 43).bind fun a10 =>
  (aL sh m6 a10 0).bind fun v11 =>
  (rR sh 12 x0 44).bind fun a12 =>
  (aL sh m6 a12 0).bind fun v13 =>
  fX12_fits_j64 sh ((10 * v11) + v13) m6)))
def fX12_worstAt_j88 (sh : Shp) (x2 : Int32) (mm : Mem) : Option (Int32) :=
  some x2
def fX12_worstAt_j81 (sh : Shp) (x0 : Nat) (x1 : Int32) (x3 : Int32) (s0 : Int32) (mm : Mem) : Option ((Int32 × Int32) ⊕ ((Int32))) :=
  lt1 s0 fun x2_3 =>
  lt1 (x3 + 1) fun x3_4 =>
  some (.inl (x2_3, x3_4))
def fX12_worstAt_j69 (sh : Shp) (x0 : Nat) (x1 : Int32) (x2 : Int32) (x3 : Int32) (x4 : Int32) (mm : Mem) : Option ((Int32 × Int32) ⊕ ((Int32))) :=
  if x4 ≤ x2 then (fX12_worstAt_j81 sh x0 x1 x3 x2 mm)
  else (fX12_worstAt_j81 sh x0 x1 x3 x4 mm)
def fX12_worstAt_j60 (sh : Shp) (x0 : Nat) (x1 : Int32) (x2 : Int32) (x3 : Int32) (x5 : Int32) (s0 : Int32) (s1 : Int32) (mm : Mem) : Option ((Int32 × Int32) ⊕ ((Int32))) :=
  lt1 (s0 + s1) fun x4_10 =>
  lt1 (x5 + 1) fun x5_11 =>
  some (.inl (x4_10, x5_11))
def fX12_worstAt_b18 (sh : Shp) (x0 : Nat) (x1 : Int32) (x2 : Int32) (x3 : Int32) (x4 : Int32) (x5 : Int32) (mm : Mem) : Option ((Int32 × Int32) ⊕ ((Int32))) :=
  (rI sh mm 12 x0 45).bind fun v12 =>
  if v12 ≤ x5 then (some (.inr x4))
  else ((rR sh 12 x0 46).bind fun a14 =>
  (aL sh mm a14 ((48 * x1) + x5)).bind fun v15 =>
  (rR sh 12 x0 46).bind fun a16 =>
  (aL sh mm a16 ((48 * x1) + x3)).bind fun v17 =>
  if v15 = v17 then (fX12_worstAt_j60 sh x0 x1 x2 x3 x5 x4 1 mm)
  else (fX12_worstAt_j60 sh x0 x1 x2 x3 x5 x4 0 mm))
def fX12_worstAt_b4 (sh : Shp) (x0 : Nat) (x1 : Int32) (x2 : Int32) (x3 : Int32) (mm : Mem) : Option ((Int32 × Int32) ⊕ ((Int32))) :=
  (rI sh mm 12 x0 45).bind fun v6 =>
  if v6 ≤ x3 then (some (.inr x2))
  else (lt1 0 fun x4_8 =>
  lt1 0 fun x5_9 =>
  (loopN (fun st : Int32 × Int32 => fX12_worstAt_b18 sh x0 x1 x2 x3 st.1 st.2 mm) FU (x4_8, x5_9)).bind (fun t => fX12_worstAt_j69 sh x0 x1 x2 x3 t mm))
def fX12_worstAt (sh : Shp) (x0 : Nat) (x1 : Int32) (mm : Mem) : Option (Int32) :=
  lt1 0 fun x2_1 =>
  lt1 0 fun x3_2 =>
  (loopN (fun st : Int32 × Int32 => fX12_worstAt_b4 sh x0 x1 st.1 st.2 mm) FU (x2_1, x3_2)).bind (fun t => fX12_worstAt_j88 sh t mm)
def fX12_isWritten_j30 (sh : Shp) (mm : Mem) : Option (Int32) :=
  some 0
def fX12_isWritten_j22 (sh : Shp) (mm : Mem) : Option (Int32) :=
  some 1
def fX12_isWritten_b2 (sh : Shp) (x0 : Nat) (x1 : Int32) (x2 : Int32) (mm : Mem) : Option ((Int32) ⊕ ((Unit) ⊕ (Unit))) :=
  (rI sh mm 12 x0 42).bind fun v2 =>
  if v2 ≤ x2 then (some (.inr (Sum.inr (()))))
  else ((rR sh 12 x0 41).bind fun a4 =>
  (aL sh mm a4 (2 * x2)).bind fun v5 =>
  if v5 = x1 then (some (.inr (Sum.inl ())))
  else (lt1 (x2 + 1) fun x2_7 =>
  some (.inl x2_7)))
def fX12_isWritten (sh : Shp) (x0 : Nat) (x1 : Int32) (mm : Mem) : Option (Int32) :=
  lt1 0 fun x2_1 =>
  (loopN (fun st : Int32 => fX12_isWritten_b2 sh x0 x1 st mm) FU x2_1).bind (Sum.elim (fun t => fX12_isWritten_j22 sh mm) (fun t => fX12_isWritten_j30 sh mm))
def fX12_look_j173 (sh : Shp) (s0 : Int32) (mm : Mem) : Option (Int32 × Mem) :=
  some (s0, mm)
def fX12_look_j164 (sh : Shp) (x1 : Int32) (x2 : Int32) (x3 : Int32) (mm : Mem) : Option (Int32 × Mem) :=
  if x1 = 0 then (fX12_look_j173 sh x2 mm)
  else (fX12_look_j173 sh x3 mm)
def fX12_look_j158 (sh : Shp) (x0 : Nat) (x1 : Int32) (x2 : Int32) (x3 : Int32) (x4 : Int32) (mm : Mem) : Option ((Int32 × Int32 × Int32) ⊕ ((Int32 × Int32))) :=
  lt1 (x4 + 1) fun x4_5 =>
  some (.inl (x2, x3, x4_5))
def fX12_look_j152 (sh : Shp) (x0 : Nat) (x1 : Int32) (x4 : Int32) (x5 : Int32) (mm : Mem) : Option ((Int32 × Int32 × Int32) ⊕ ((Int32 × Int32))) :=
  lt1 x4 fun x2_6 =>
  lt1 x5 fun x3_7 =>
  fX12_look_j158 sh x0 x1 x2_6 x3_7 x4 mm
def fX12_look_j130 (sh : Shp) (x0 : Nat) (x1 : Int32) (x2 : Int32) (x3 : Int32) (x4 : Int32) (s0 : Int32) (mm : Mem) : Option ((Int32 × Int32 × Int32) ⊕ ((Int32 × Int32))) :=
  lt1 s0 fun x5_8 =>
  if x5_8 = (-1) then (fX12_look_j158 sh x0 x1 x2 x3 x4 mm)
  else (if x2 = (-1) then (fX12_look_j152 sh x0 x1 x4 x5_8 mm)
  else (if x5_8 < x3 then (fX12_look_j152 sh x0 x1 x4 x5_8 mm)
  else (fX12_look_j158 sh x0 x1 x2 x3 x4 mm)))
def fX12_look_b102 (sh : Shp) (x0 : Nat) (x1 : Int32) (x2 : Int32) (x3 : Int32) (x4 : Int32) (mm : Mem) : Option ((Int32 × Int32 × Int32) ⊕ ((Int32 × Int32))) :=
  (rI sh mm 12 x0 19).bind fun v12 =>
  if v12 ≤ x4 then (some (.inr (x2, x3)))
  else ((isO sh 12 x0).bind fun _ =>
  (fX12_isWritten sh x0 x4 mm).bind fun v14 =>
  if v14 = 0 then ((isO sh 12 x0).bind fun _ =>
  (fX12_worstAt sh x0 x4 mm).bind fun v16 =>
  fX12_look_j130 sh x0 x1 x2 x3 x4 v16 mm)
  else (fX12_look_j130 sh x0 x1 x2 x3 x4 (-1) mm))
def fX12_look_j95 (sh : Shp) (x0 : Nat) (x1 : Int32) (mm : Mem) : Option (Int32 × Mem) :=
  lt1 (-1) fun x2_2 =>
  lt1 (-1) fun x3_3 =>
  lt1 0 fun x4_4 =>
  (loopN (fun st : Int32 × Int32 × Int32 => fX12_look_b102 sh x0 x1 st.1 st.2.1 st.2.2 mm) FU (x2_2, x3_3, x4_4)).bind (fun t => fX12_look_j164 sh x1 t.1 t.2 mm)
def fX12_look_j89 (sh : Shp) (x0 : Nat) (x1 : Int32) (x2 : Int32) (mm : Mem) : Option ((Int32 × Mem) ⊕ ((Mem))) :=
  lt1 (x2 + 1) fun x2_24 =>
  some (.inl (x2_24, mm))
def fX12_look_b59 (sh : Shp) (x0 : Nat) (x1 : Int32) (x2 : Int32) (x3 : Int32) (mm : Mem) : Option ((Int32 × Mem) ⊕ ((Mem))) :=
  (rI sh mm 12 x0 19).bind fun v35 =>
  if v35 ≤ x3 then (some (.inr mm))
  else ((rR sh 12 x0 46).bind fun a37 =>
  (isO sh 12 x0).bind fun _ =>
  (fX12_atPlace sh x0 x3 mm).bind fun v38 =>
  (aS sh mm a37 ((48 * x3) + x2) v38).bind fun m39 =>
  lt1 (x3 + 1) fun x3_40 =>
  some (.inl (x3_40, m39)))
def fX12_look_b28 (sh : Shp) (x0 : Nat) (x1 : Int32) (x2 : Int32) (mm : Mem) : Option ((Int32 × Mem) ⊕ ((Mem))) :=
  (rI sh mm 12 x0 45).bind fun v25 =>
  if v25 ≤ x2 then (some (.inr mm))
  else ((isO sh 12 x0).bind fun _ =>
  (fX12_take sh x0 mm).bind fun m27 =>
  (rR sh 12 x0 43).bind fun a28 =>
  (aL sh m27 a28 x2).bind fun v29 =>
  (rR sh 12 x0 44).bind fun a30 =>
  (aL sh m27 a30 x2).bind fun v31 =>
  (isO sh 12 x0).bind fun _ =>
  bd2 (fX12_isParted sh x0 v29 v31 m27) fun v32 m33 =>
  lt1 0 fun x3_34 =>
  (loopN (fun st : Int32 × Mem => fX12_look_b59 sh x0 x1 x2 st.1 st.2) FU (x3_34, m33)).bind (fun t => fX12_look_j89 sh x0 x1 x2 t))
def fX12_look (sh : Shp) (x0 : Nat) (x1 : Int32) (mm : Mem) : Option (Int32 × Mem) :=
  (wI sh mm 12 x0 0 0).bind fun m17 =>
  (fX12_within x1 0 1).bind fun v18 =>
  (isO sh 12 x0).bind fun _ =>
  bd2 (fX12_may sh x0 v18 1 1 m17) fun v19 m20 =>
  if v19 = 0 then (some (0, m20))
  else ((isO sh 12 x0).bind fun _ =>
  (fX12_laysFits sh x0 m20).bind fun m22 =>
  lt1 0 fun x2_23 =>
  (loopN (fun st : Int32 × Mem => fX12_look_b28 sh x0 x1 st.1 st.2) FU (x2_23, m22)).bind (fun t => fX12_look_j95 sh x0 x1 t))
def fX12_votesOf_j40 (sh : Shp) (x3 : Int32) (mm : Mem) : Option (Int32) :=
  some x3
def fX12_votesOf_b5 (sh : Shp) (x0 : Nat) (x1 : Int32) (x2 : Int32) (x3 : Int32) (x4 : Int32) (mm : Mem) : Option ((Int32 × Int32) ⊕ ((Int32))) :=
  if 7 ≤ x4 then (some (.inr x3))
  else ((rR sh 12 x0 36).bind fun a4 =>
  (fX12_in 0 x1 x4).bind fun v5 =>
  (aL sh mm a4 v5).bind fun v6 =>
  lt1 (x3 + (((x2 >>> (x4 &&& 31)) &&& 1) * v6)) fun x3_7 =>
  lt1 (x4 + 1) fun x4_8 =>
  some (.inl (x3_7, x4_8)))
def fX12_votesOf (sh : Shp) (x0 : Nat) (x1 : Int32) (x2 : Int32) (mm : Mem) : Option (Int32) :=
  lt1 0 fun x3_1 =>
  lt1 0 fun x4_2 =>
  (loopN (fun st : Int32 × Int32 => fX12_votesOf_b5 sh x0 x1 x2 st.1 st.2 mm) FU (x3_1, x4_2)).bind (fun t => fX12_votesOf_j40 sh t mm)
def fX12_isSwing_j39 (sh : Shp) (s0 : Int32) (mm : Mem) : Option (Int32) :=
  (ckZ s0).bind fun v1 => some v1
def fX12_isSwing_j38 (sh : Shp) (mm : Mem) : Option (Int32) :=
  fX12_isSwing_j39 sh 0 mm
def fX12_isSwing (sh : Shp) (x0 : Nat) (x1 : Int32) (x2 : Int32) (x3 : Int32) (x4 : Int32) (mm : Mem) : Option (Int32) :=
  if ((x2 >>> (x3 &&& 31)) &&& 1) = 0 then ((isO sh 12 x0).bind fun _ =>
  (fX12_votesOf sh x0 x1 x2 mm).bind fun v3 =>
  if x4 ≤ v3 then (fX12_isSwing_j38 sh mm)
  else ((isO sh 12 x0).bind fun _ =>
  (fX12_votesOf sh x0 x1 (x2 ||| (1 <<< (x3 &&& 31))) mm).bind fun v5 =>
  if v5 < x4 then (fX12_isSwing_j38 sh mm)
  else (fX12_isSwing_j39 sh 1 mm)))
  else (fX12_isSwing_j38 sh mm)
def fX12_swings_j46 (sh : Shp) (mm : Mem) : Option (Int32 × Mem) :=
  some (0, mm)
def fX12_swings_j90 (sh : Shp) (x4 : Int32) (mm : Mem) : Option (Int32 × Mem) :=
  some (x4, mm)
def fX12_swings_j81 (sh : Shp) (x0 : Nat) (x1 : Int32) (x2 : Int32) (x3 : Int32) (x5 : Int32) (s0 : Int32) (s1 : Int32) (mm : Mem) : Option ((Int32 × Int32) ⊕ ((Int32))) :=
  lt1 (s0 + s1) fun x4_6 =>
  lt1 (x5 + 1) fun x5_7 =>
  some (.inl (x4_6, x5_7))
def fX12_swings_b54 (sh : Shp) (x0 : Nat) (x1 : Int32) (x2 : Int32) (x3 : Int32) (x4 : Int32) (x5 : Int32) (mm : Mem) : Option ((Int32 × Int32) ⊕ ((Int32))) :=
  if 128 ≤ x5 then (some (.inr x4))
  else ((isO sh 12 x0).bind fun _ =>
  (fX12_isSwing sh x0 x1 x5 x2 x3 mm).bind fun v9 =>
  if v9 = 0 then (fX12_swings_j81 sh x0 x1 x2 x3 x5 x4 0 mm)
  else (fX12_swings_j81 sh x0 x1 x2 x3 x5 x4 1 mm))
def fX12_swings_j38 (sh : Shp) (x0 : Nat) (x1 : Int32) (x2 : Int32) (x3 : Int32) (s0 : Nat) (s1 : Int32) (mm : Mem) : Option (Int32 × Mem) :=
  (isO sh 12 s0).bind fun _ =>
  bd2 (fX12_may sh s0 s1 2 1 mm) fun v1 m2 =>
  if v1 = 0 then (fX12_swings_j46 sh m2)
  else (lt1 0 fun x4_4 =>
  lt1 0 fun x5_5 =>
  (loopN (fun st : Int32 × Int32 => fX12_swings_b54 sh x0 x1 x2 x3 st.1 st.2 m2) FU (x4_4, x5_5)).bind (fun t => fX12_swings_j90 sh t m2))
def fX12_swings_j37 (sh : Shp) (x0 : Nat) (x1 : Int32) (x2 : Int32) (x3 : Int32) (s0 : Nat) (mm : Mem) : Option (Int32 × Mem) :=
  fX12_swings_j38 sh x0 x1 x2 x3 s0 0 mm
def fX12_swings (sh : Shp) (x0 : Nat) (x1 : Int32) (x2 : Int32) (x3 : Int32) (mm : Mem) : Option (Int32 × Mem) :=
  (wI sh mm 12 x0 0 0).bind fun m11 =>
  (isO sh 12 x0).bind fun _ =>
  bd2 (fX12_isFellow sh x0 x1 1 m11) fun v12 m13 =>
  if v12 = 0 then (fX12_swings_j46 sh m13)
  else ((fX12_isPart x2).bind fun v15 =>
  if v15 = 0 then (fX12_swings_j37 sh x0 x1 x2 x3 x0 m13)
  else ((fX12_within x3 1 2800).bind fun v17 =>
  if v17 = 0 then (fX12_swings_j37 sh x0 x1 x2 x3 x0 m13)
  else (fX12_swings_j38 sh x0 x1 x2 x3 x0 1 m13)))
def fX12_allOrders_j19 (x1 : Int32) : Option (Int32) :=
  some x1
def fX12_allOrders_b4 (x0 : Int32) (x1 : Int32) (x2 : Int32) : Option ((Int32 × Int32) ⊕ ((Int32))) :=
  if x0 < x2 then (some (.inr x1))
  else (lt1 (x1 * x2) fun x1_4 =>
  lt1 (x2 + 1) fun x2_5 =>
  some (.inl (x1_4, x2_5)))
def fX12_allOrders (x0 : Int32) : Option (Int32) :=
  lt1 1 fun x1_1 =>
  lt1 2 fun x2_2 =>
  (loopN (fun st : Int32 × Int32 => fX12_allOrders_b4 x0 st.1 st.2) FU (x1_1, x2_2)).bind (fun t => fX12_allOrders_j19 t)
def fX12_least_j41 (x5 : Int64) (s0 : Int64) : Option (Int64) :=
  (dvL s0 x5).bind fun v1 =>
  some v1
def fX12_least_j31 (x0 : Int64) (x2 : Int64) (x4 : Int32) (x5 : Int64) : Option (Int64) :=
  if x4 = 0 then (fX12_least_j41 x5 x0)
  else (fX12_least_j41 x5 x2)
def fX12_least_b6 (x0 : Int64) (x2 : Int64) (x4 : Int32) (x5 : Int64) (x7 : Int64) : Option ((Int64 × Int64) ⊕ ((Int64))) :=
  if (lg_cmp x7 0) = 0 then (some (.inr x5))
  else ((rmL x5 x7).bind fun v6 =>
  lt1 v6 fun x9_7 =>
  lt1 x7 fun x5_8 =>
  lt1 x9_7 fun x7_9 =>
  some (.inl (x5_8, x7_9)))
def fX12_least (x0 : Int64) (x2 : Int64) (x4 : Int32) : Option (Int64) :=
  lt1 x0 fun x5_3 =>
  lt1 x2 fun x7_4 =>
  (loopN (fun st : Int64 × Int64 => fX12_least_b6 x0 x2 x4 st.1 st.2) FU (x5_3, x7_4)).bind (fun t => fX12_least_j31 x0 x2 x4 t)
def fX12_power_j56 (sh : Shp) (mm : Mem) : Option (Int32 × Mem) :=
  some (0, mm)
def fX12_power_j115 (sh : Shp) (x4 : Int32) (x5 : Int32) (mm : Mem) : Option (Int32 × Mem) :=
  (fX12_allOrders 7).bind fun v1 =>
  (fX12_least ((x5).toInt64) ((v1).toInt64) x4).bind fun v2 =>
  some (((v2).toInt32), mm)
def fX12_power_j109 (sh : Shp) (x0 : Nat) (x1 : Int32) (x2 : Int32) (x3 : Int32) (x4 : Int32) (x5 : Int32) (x6 : Int32) (mm : Mem) : Option ((Int32 × Int32) ⊕ ((Int32))) :=
  lt1 (x6 + 1) fun x6_8 =>
  some (.inl (x5, x6_8))
def fX12_power_b64 (sh : Shp) (x0 : Nat) (x1 : Int32) (x2 : Int32) (x3 : Int32) (x4 : Int32) (x5 : Int32) (x6 : Int32) (mm : Mem) : Option ((Int32 × Int32) ⊕ ((Int32))) :=
  if 128 ≤ x6 then (some (.inr x5))
  else ((isO sh 12 x0).bind fun _ =>
  (fX12_isSwing sh x0 x1 x6 x2 x3 mm).bind fun v10 =>
  if v10 = 0 then (fX12_power_j109 sh x0 x1 x2 x3 x4 x5 x6 mm)
  else ((fX12_ones x6).bind fun v12 =>
  (fX12_allOrders v12).bind fun v13 =>
  (fX12_ones x6).bind fun v14 =>
  (fX12_allOrders (6 - v14)).bind fun v15 =>
  lt1 (x5 + (v13 * v15)) fun x5_16 =>
  fX12_power_j109 sh x0 x1 x2 x3 x4 x5_16 x6 mm))
def fX12_power_j48 (sh : Shp) (x0 : Nat) (x1 : Int32) (x2 : Int32) (x3 : Int32) (x4 : Int32) (s0 : Nat) (s1 : Int32) (mm : Mem) : Option (Int32 × Mem) :=
  (isO sh 12 s0).bind fun _ =>
  bd2 (fX12_may sh s0 s1 2 1 mm) fun v3 m4 =>
  if v3 = 0 then (fX12_power_j56 sh m4)
  else (lt1 0 fun x5_6 =>
  lt1 0 fun x6_7 =>
  (loopN (fun st : Int32 × Int32 => fX12_power_b64 sh x0 x1 x2 x3 x4 st.1 st.2 m4) FU (x5_6, x6_7)).bind (fun t => fX12_power_j115 sh x4 t m4))
def fX12_power_j47 (sh : Shp) (x0 : Nat) (x1 : Int32) (x2 : Int32) (x3 : Int32) (x4 : Int32) (s0 : Nat) (mm : Mem) : Option (Int32 × Mem) :=
  fX12_power_j48 sh x0 x1 x2 x3 x4 s0 0 mm
def fX12_power (sh : Shp) (x0 : Nat) (x1 : Int32) (x2 : Int32) (x3 : Int32) (x4 : Int32) (mm : Mem) : Option (Int32 × Mem) :=
  (wI sh mm 12 x0 0 0).bind fun m17 =>
  (isO sh 12 x0).bind fun _ =>
  bd2 (fX12_isFellow sh x0 x1 1 m17) fun v18 m19 =>
  if v18 = 0 then (fX12_power_j56 sh m19)
  else ((fX12_isPart x2).bind fun v21 =>
  if v21 = 0 then (fX12_power_j47 sh x0 x1 x2 x3 x4 x0 m19)
  else ((fX12_within x3 1 2800).bind fun v23 =>
  if v23 = 0 then (fX12_power_j47 sh x0 x1 x2 x3 x4 x0 m19)
  else ((fX12_within x4 0 1).bind fun v25 =>
  if v25 = 0 then (fX12_power_j47 sh x0 x1 x2 x3 x4 x0 m19)
  else (fX12_power_j48 sh x0 x1 x2 x3 x4 x0 1 m19))))
def fX12_green_j89 (sh : Shp) (x3 : Int32) (x4 : Int64) (x6 : Int64) (mm : Mem) : Option (Int64 × Mem) :=
  (fX12_least (x6 - x4) x6 x3).bind fun v1 =>
  some (v1, mm)
def fX12_green_b59 (sh : Shp) (x1 : Int32) (x2 : Int32) (x3 : Int32) (x4 : Int64) (x6 : Int64) (x8 : Int32) (mm : Mem) : Option ((Int64 × Int64 × Int32) ⊕ ((Int64 × Int64))) :=
  if x1 ≤ x8 then (some (.inr (x4, x6)))
  else (lt1 (x4 * (((16 - x2)).toInt64)) fun x4_9 =>
  lt1 (x6 * 16) fun x6_10 =>
  lt1 (x8 + 1) fun x8_11 =>
  some (.inl (x4_9, x6_10, x8_11)))
def fX12_green_j40 (sh : Shp) (x1 : Int32) (x2 : Int32) (x3 : Int32) (s0 : Nat) (s1 : Int32) (mm : Mem) : Option (Int64 × Mem) :=
  (isO sh 12 s0).bind fun _ =>
  bd2 (fX12_may sh s0 s1 1 1 mm) fun v2 m3 =>
  if v2 = 0 then (some (0, m3))
  else (lt1 1 fun x4_5 =>
  lt1 1 fun x6_6 =>
  lt1 0 fun x8_7 =>
  (loopN (fun st : Int64 × Int64 × Int32 => fX12_green_b59 sh x1 x2 x3 st.1 st.2.1 st.2.2 m3) FU (x4_5, x6_6, x8_7)).bind (fun t => fX12_green_j89 sh x3 t.1 t.2 m3))
def fX12_green_j39 (sh : Shp) (x1 : Int32) (x2 : Int32) (x3 : Int32) (s0 : Nat) (mm : Mem) : Option (Int64 × Mem) :=
  fX12_green_j40 sh x1 x2 x3 s0 0 mm
def fX12_green (sh : Shp) (x0 : Nat) (x1 : Int32) (x2 : Int32) (x3 : Int32) (mm : Mem) : Option (Int64 × Mem) :=
  (wI sh mm 12 x0 0 0).bind fun m12 =>
  (fX12_within x1 0 12).bind fun v13 =>
  if v13 = 0 then (fX12_green_j39 sh x1 x2 x3 x0 m12)
  else ((fX12_within x2 0 16).bind fun v15 =>
  if v15 = 0 then (fX12_green_j39 sh x1 x2 x3 x0 m12)
  else ((fX12_within x3 0 1).bind fun v17 =>
  if v17 = 0 then (fX12_green_j39 sh x1 x2 x3 x0 m12)
  else (fX12_green_j40 sh x1 x2 x3 x0 1 m12)))
def fX12_hasBy_j18 (s0 : Int32) : Option (Int32) :=
  some s0
def fX12_hasBy (x0 : Int32) (x1 : Int32) (x2 : Int32) (x3 : Int32) : Option (Int32) :=
  if x0 = x1 then (fX12_hasBy_j18 0)
  else (if x0 = 0 then (fX12_hasBy_j18 x2)
  else (fX12_hasBy_j18 x3))
def fX12_lookers_j216 (sh : Shp) (s0 : Int32) (mm : Mem) : Option (Int32 × Mem) :=
  some (s0, mm)
def fX12_lookers_j156 (sh : Shp) (x1 : Int32) (x2 : Int32) (x3 : Int32) (x4 : Int32) (x5 : Int32) (mm : Mem) : Option (Int32 × Mem) :=
  if x3 = 0 then (fX12_lookers_j216 sh x4 mm)
  else (if x3 = 1 then (fX12_lookers_j216 sh x5 mm)
  else (if x5 = (-1) then (fX12_lookers_j216 sh 0 mm)
  else ((dvI x5 10).bind fun v4 =>
  (rmI x5 10).bind fun v5 =>
  (fX12_hasBy v4 v5 x1 x2).bind fun v6 =>
  (rmI x5 10).bind fun v7 =>
  (dvI x5 10).bind fun v8 =>
  (fX12_hasBy v7 v8 x1 x2).bind fun v9 =>
  fX12_lookers_j216 sh (v6 + v9) mm)))
def fX12_lookers_j150 (sh : Shp) (x1 : Int32) (x2 : Int32) (x3 : Int32) (x4 : Int32) (x5 : Int32) (x6 : Int32) (mm : Mem) : Option ((Int32 × Int32 × Int32) ⊕ ((Int32 × Int32))) :=
  lt1 (x6 + 1) fun x6_16 =>
  some (.inl (x4, x5, x6_16))
def fX12_lookers_j148 (sh : Shp) (x1 : Int32) (x2 : Int32) (x3 : Int32) (x4 : Int32) (x6 : Int32) (s0 : Int32) (mm : Mem) : Option ((Int32 × Int32 × Int32) ⊕ ((Int32 × Int32))) :=
  lt1 s0 fun x5_17 =>
  fX12_lookers_j150 sh x1 x2 x3 x4 x5_17 x6 mm
def fX12_lookers_b59 (sh : Shp) (x1 : Int32) (x2 : Int32) (x3 : Int32) (x4 : Int32) (x5 : Int32) (x6 : Int32) (mm : Mem) : Option ((Int32 × Int32 × Int32) ⊕ ((Int32 × Int32))) :=
  if 4 ≤ x6 then (some (.inr (x4, x5)))
  else ((dvI x6 2).bind fun v19 =>
  lt1 v19 fun x7_20 =>
  (rmI x6 2).bind fun v21 =>
  lt1 v21 fun x8_22 =>
  (fX12_hasBy (1 - x7_20) x8_22 x1 x2).bind fun v23 =>
  (fX12_hasBy x7_20 x8_22 x1 x2).bind fun v24 =>
  if v24 < v23 then (fX12_lookers_j150 sh x1 x2 x3 x4 x5 x6 mm)
  else ((fX12_hasBy (1 - x8_22) x7_20 x1 x2).bind fun v26 =>
  (fX12_hasBy x8_22 x7_20 x1 x2).bind fun v27 =>
  if v26 ≤ v27 then (lt1 (x4 + 1) fun x4_29 =>
  if x5 = (-1) then (fX12_lookers_j148 sh x1 x2 x3 x4_29 x6 ((10 * x7_20) + x8_22) mm)
  else (fX12_lookers_j148 sh x1 x2 x3 x4_29 x6 x5 mm))
  else (fX12_lookers_j150 sh x1 x2 x3 x4 x5 x6 mm)))
def fX12_lookers_j40 (sh : Shp) (x1 : Int32) (x2 : Int32) (x3 : Int32) (s0 : Nat) (s1 : Int32) (mm : Mem) : Option (Int32 × Mem) :=
  (isO sh 12 s0).bind fun _ =>
  bd2 (fX12_may sh s0 s1 1 1 mm) fun v10 m11 =>
  if v10 = 0 then (some (0, m11))
  else (lt1 0 fun x4_13 =>
  lt1 (-1) fun x5_14 =>
  lt1 0 fun x6_15 =>
  (loopN (fun st : Int32 × Int32 × Int32 => fX12_lookers_b59 sh x1 x2 x3 st.1 st.2.1 st.2.2 m11) FU (x4_13, x5_14, x6_15)).bind (fun t => fX12_lookers_j156 sh x1 x2 x3 t.1 t.2 m11))
def fX12_lookers_j39 (sh : Shp) (x1 : Int32) (x2 : Int32) (x3 : Int32) (s0 : Nat) (mm : Mem) : Option (Int32 × Mem) :=
  fX12_lookers_j40 sh x1 x2 x3 s0 0 mm
def fX12_lookers (sh : Shp) (x0 : Nat) (x1 : Int32) (x2 : Int32) (x3 : Int32) (mm : Mem) : Option (Int32 × Mem) :=
  (wI sh mm 12 x0 0 0).bind fun m31 =>
  (fX12_within x1 0 99).bind fun v32 =>
  if v32 = 0 then (fX12_lookers_j39 sh x1 x2 x3 x0 m31)
  else ((fX12_within x2 0 99).bind fun v34 =>
  if v34 = 0 then (fX12_lookers_j39 sh x1 x2 x3 x0 m31)
  else ((fX12_within x3 0 2).bind fun v36 =>
  if v36 = 0 then (fX12_lookers_j39 sh x1 x2 x3 x0 m31)
  else (fX12_lookers_j40 sh x1 x2 x3 x0 1 m31)))
def fX12_bounded_j18 (sh : Shp) (s0 : Int32) (mm : Mem) : Option (Int32) :=
  some s0
def fX12_bounded (sh : Shp) (x0 : Nat) (x1 : Int32) (x2 : Int32) (mm : Mem) : Option (Int32) :=
  (isO sh 12 x0).bind fun _ =>
  (fX12_withinOf sh x0 x1 mm).bind fun v1 =>
  if x2 ≤ v1 then (fX12_bounded_j18 sh x2 mm)
  else ((isO sh 12 x0).bind fun _ =>
  (fX12_withinOf sh x0 x1 mm).bind fun v3 =>
  fX12_bounded_j18 sh v3 mm)
def fX12_lightBy_j37 (sh : Shp) (x3 : Int32) (mm : Mem) : Option (Int32) :=
  some x3
def fX12_lightBy_b5 (sh : Shp) (x0 : Nat) (x1 : Int32) (x2 : Int32) (x3 : Int32) (x4 : Int32) (mm : Mem) : Option ((Int32 × Int32) ⊕ ((Int32))) :=
  (rI sh mm 12 x0 17).bind fun v3 =>
  if v3 ≤ x4 then (some (.inr x3))
  else ((isO sh 12 x0).bind fun _ =>
  (fX12_bounded sh x0 x4 x2 mm).bind fun v5 =>
  lt1 (x3 + (((x1 >>> (x4 &&& 31)) &&& 1) * v5)) fun x3_6 =>
  lt1 (x4 + 1) fun x4_7 =>
  some (.inl (x3_6, x4_7)))
def fX12_lightBy (sh : Shp) (x0 : Nat) (x1 : Int32) (x2 : Int32) (mm : Mem) : Option (Int32) :=
  lt1 0 fun x3_1 =>
  lt1 0 fun x4_2 =>
  (loopN (fun st : Int32 × Int32 => fX12_lightBy_b5 sh x0 x1 x2 st.1 st.2 mm) FU (x3_1, x4_2)).bind (fun t => fX12_lightBy_j37 sh t mm)
def fX12_light_j47 (sh : Shp) (mm : Mem) : Option (Int32 × Mem) :=
  some (0, mm)
def fX12_light_j94 (sh : Shp) (s0 : Int32) (mm : Mem) : Option (Int32 × Mem) :=
  some (s0, mm)
def fX12_light_j75 (sh : Shp) (x0 : Nat) (x1 : Int32) (x2 : Int32) (x4 : Int32) (mm : Mem) : Option (Int32 × Mem) :=
  if ((x2 >>> (x1 &&& 31)) &&& 1) = 0 then (fX12_light_j94 sh 0 mm)
  else ((isO sh 12 x0).bind fun _ =>
  (fX12_bounded sh x0 x1 x4 mm).bind fun v2 =>
  fX12_light_j94 sh v2 mm)
def fX12_light_b58 (sh : Shp) (x0 : Nat) (x1 : Int32) (x2 : Int32) (x3 : Int32) (x4 : Int32) (mm : Mem) : Option ((Int32) ⊕ ((Int32))) :=
  (isO sh 12 x0).bind fun _ =>
  (fX12_lightBy sh x0 x2 x4 mm).bind fun v8 =>
  if v8 ≤ x3 then (some (.inr x4))
  else (lt1 (x4 + (-1)) fun x4_10 =>
  some (.inl x4_10))
def fX12_light_j39 (sh : Shp) (x0 : Nat) (x1 : Int32) (x2 : Int32) (x3 : Int32) (s0 : Nat) (s1 : Int32) (mm : Mem) : Option (Int32 × Mem) :=
  (isO sh 12 s0).bind fun _ =>
  bd2 (fX12_may sh s0 s1 2 1 mm) fun v3 m4 =>
  if v3 = 0 then (fX12_light_j47 sh m4)
  else ((isO sh 12 x0).bind fun _ =>
  (fX12_take sh x0 m4).bind fun m6 =>
  lt1 2800 fun x4_7 =>
  (loopN (fun st : Int32 => fX12_light_b58 sh x0 x1 x2 x3 st m6) FU x4_7).bind (fun t => fX12_light_j75 sh x0 x1 x2 t m6))
def fX12_light_j38 (sh : Shp) (x0 : Nat) (x1 : Int32) (x2 : Int32) (x3 : Int32) (s0 : Nat) (mm : Mem) : Option (Int32 × Mem) :=
  fX12_light_j39 sh x0 x1 x2 x3 s0 0 mm
def fX12_light (sh : Shp) (x0 : Nat) (x1 : Int32) (x2 : Int32) (x3 : Int32) (mm : Mem) : Option (Int32 × Mem) :=
  (wI sh mm 12 x0 0 0).bind fun m11 =>
  (isO sh 12 x0).bind fun _ =>
  bd2 (fX12_isFellow sh x0 x1 1 m11) fun v12 m13 =>
  if v12 = 0 then (fX12_light_j47 sh m13)
  else ((isO sh 12 x0).bind fun _ =>
  (fX12_isSet sh x0 x2 m13).bind fun v15 =>
  if v15 = 0 then (fX12_light_j38 sh x0 x1 x2 x3 x0 m13)
  else ((fX12_within x3 0 2800).bind fun v17 =>
  if v17 = 0 then (fX12_light_j38 sh x0 x1 x2 x3 x0 m13)
  else (fX12_light_j39 sh x0 x1 x2 x3 x0 1 m13)))
def fX12_broadest_j82 (sh : Shp) (s0 : Int32) (mm : Mem) : Option (Int32 × Mem) :=
  some (s0, mm)
def fX12_broadest_j73 (sh : Shp) (x2 : Int32) (mm : Mem) : Option (Int32 × Mem) :=
  fX12_broadest_j82 sh x2 mm
def fX12_broadest_j64 (sh : Shp) (x0 : Nat) (x1 : Int32) (x2 : Int32) (mm : Mem) : Option (Int32 × Mem) :=
  if x1 = 0 then (fX12_broadest_j73 sh x2 mm)
  else (if x2 = (-1) then (fX12_broadest_j73 sh x2 mm)
  else ((isO sh 12 x0).bind fun _ =>
  (fX12_withinOf sh x0 x2 mm).bind fun v3 =>
  fX12_broadest_j82 sh v3 mm))
def fX12_broadest_j58 (sh : Shp) (x0 : Nat) (x1 : Int32) (x2 : Int32) (x3 : Int32) (mm : Mem) : Option ((Int32 × Int32) ⊕ ((Int32))) :=
  lt1 (x3 + 1) fun x3_12 =>
  some (.inl (x2, x3_12))
def fX12_broadest_j56 (sh : Shp) (x0 : Nat) (x1 : Int32) (x3 : Int32) (mm : Mem) : Option ((Int32 × Int32) ⊕ ((Int32))) :=
  lt1 x3 fun x2_13 =>
  fX12_broadest_j58 sh x0 x1 x2_13 x3 mm
def fX12_broadest_b30 (sh : Shp) (x0 : Nat) (x1 : Int32) (x2 : Int32) (x3 : Int32) (mm : Mem) : Option ((Int32 × Int32) ⊕ ((Int32))) :=
  (rI sh mm 12 x0 17).bind fun v14 =>
  if v14 ≤ x3 then (some (.inr x2))
  else (if x2 = (-1) then (fX12_broadest_j56 sh x0 x1 x3 mm)
  else ((isO sh 12 x0).bind fun _ =>
  (fX12_withinOf sh x0 x3 mm).bind fun v17 =>
  (isO sh 12 x0).bind fun _ =>
  (fX12_withinOf sh x0 x2 mm).bind fun v18 =>
  if v17 ≤ v18 then (fX12_broadest_j58 sh x0 x1 x2 x3 mm)
  else (fX12_broadest_j56 sh x0 x1 x3 mm)))
def fX12_broadest (sh : Shp) (x0 : Nat) (x1 : Int32) (mm : Mem) : Option (Int32 × Mem) :=
  (wI sh mm 12 x0 0 0).bind fun m4 =>
  (fX12_within x1 0 1).bind fun v5 =>
  (isO sh 12 x0).bind fun _ =>
  bd2 (fX12_may sh x0 v5 1 1 m4) fun v6 m7 =>
  if v6 = 0 then (some (0, m7))
  else ((isO sh 12 x0).bind fun _ =>
  (fX12_take sh x0 m7).bind fun m9 =>
  lt1 (-1) fun x2_10 =>
  lt1 0 fun x3_11 =>
  (loopN (fun st : Int32 × Int32 => fX12_broadest_b30 sh x0 x1 st.1 st.2 m9) FU (x2_10, x3_11)).bind (fun t => fX12_broadest_j64 sh x0 x1 t m9))
def fX12_strongest_j29 (sh : Shp) (mm : Mem) : Option (Int32 × Mem) :=
  some (0, mm)
def fX12_strongest_j101 (sh : Shp) (s0 : Int32) (mm : Mem) : Option (Int32 × Mem) :=
  some (s0, mm)
def fX12_strongest_j82 (sh : Shp) (x0 : Nat) (x1 : Int32) (x2 : Int32) (x3 : Int32) (mm : Mem) : Option (Int32 × Mem) :=
  if x2 = 0 then (fX12_strongest_j101 sh x3 mm)
  else ((rR sh 12 x0 36).bind fun a2 =>
  (fX12_in 0 x1 x3).bind fun v3 =>
  (aL sh mm a2 v3).bind fun v4 =>
  fX12_strongest_j101 sh v4 mm)
def fX12_strongest_j75 (sh : Shp) (x0 : Nat) (x1 : Int32) (x2 : Int32) (x4 : Int32) (s0 : Int32) (mm : Mem) : Option ((Int32 × Int32) ⊕ ((Int32))) :=
  lt1 s0 fun x3_15 =>
  lt1 (x4 + 1) fun x4_16 =>
  some (.inl (x3_15, x4_16))
def fX12_strongest_b36 (sh : Shp) (x0 : Nat) (x1 : Int32) (x2 : Int32) (x3 : Int32) (x4 : Int32) (mm : Mem) : Option ((Int32 × Int32) ⊕ ((Int32))) :=
  if 7 ≤ x4 then (some (.inr x3))
  else ((rR sh 12 x0 36).bind fun a18 =>
  (fX12_in 0 x1 x4).bind fun v19 =>
  (aL sh mm a18 v19).bind fun v20 =>
  (rR sh 12 x0 36).bind fun a21 =>
  (fX12_in 0 x1 x3).bind fun v22 =>
  (aL sh mm a21 v22).bind fun v23 =>
  if v20 ≤ v23 then (fX12_strongest_j75 sh x0 x1 x2 x4 x3 mm)
  else (fX12_strongest_j75 sh x0 x1 x2 x4 x4 mm))
def fX12_strongest (sh : Shp) (x0 : Nat) (x1 : Int32) (x2 : Int32) (mm : Mem) : Option (Int32 × Mem) :=
  (wI sh mm 12 x0 0 0).bind fun m5 =>
  (isO sh 12 x0).bind fun _ =>
  bd2 (fX12_isFellow sh x0 x1 1 m5) fun v6 m7 =>
  if v6 = 0 then (fX12_strongest_j29 sh m7)
  else ((fX12_within x2 0 1).bind fun v9 =>
  (isO sh 12 x0).bind fun _ =>
  bd2 (fX12_may sh x0 v9 2 1 m7) fun v10 m11 =>
  if v10 = 0 then (fX12_strongest_j29 sh m11)
  else (lt1 0 fun x3_13 =>
  lt1 1 fun x4_14 =>
  (loopN (fun st : Int32 × Int32 => fX12_strongest_b36 sh x0 x1 x2 st.1 st.2 m11) FU (x3_13, x4_14)).bind (fun t => fX12_strongest_j82 sh x0 x1 x2 t m11)))
def fX12_joins_j23 (sh : Shp) (mm : Mem) : Option (Int32 × Mem) :=
  some (0, mm)
def fX12_joins (sh : Shp) (x0 : Nat) (x1 : Int32) (x2 : Int32) (mm : Mem) : Option (Int32 × Mem) :=
  (wI sh mm 12 x0 0 0).bind fun m1 =>
  (isO sh 12 x0).bind fun _ =>
  bd2 (fX12_isFellow sh x0 x1 1 m1) fun v2 m3 =>
  if v2 = 0 then (fX12_joins_j23 sh m3)
  else ((isO sh 12 x0).bind fun _ =>
  bd2 (fX12_isGlass sh x0 x2 1 m3) fun v5 m6 =>
  if v5 = 0 then (fX12_joins_j23 sh m6)
  else ((isO sh 12 x0).bind fun _ =>
  (fX12_take sh x0 m6).bind fun m8 =>
  (isO sh 12 x0).bind fun _ =>
  bd2 (fX12_comesBack sh x0 x1 x2 m8) fun v9 m10 =>
  some (v9, m10)))
def fX12_areTogether_j86 (sh : Shp) (mm : Mem) : Option (Int32) :=
  some 0
def fX12_areTogether_j72 (sh : Shp) (mm : Mem) : Option (Int32) :=
  some 1
def fX12_areTogether_j80 (sh : Shp) (x0 : Nat) (x1 : Int32) (x2 : Int32) (mm : Mem) : Option ((Int32) ⊕ ((Unit) ⊕ (Unit))) :=
  lt1 (x2 + 1) fun x2_2 =>
  some (.inl x2_2)
def fX12_areTogether_j74 (sh : Shp) (x0 : Nat) (x1 : Int32) (x2 : Int32) (x3 : Int32) (mm : Mem) : Option ((Int32) ⊕ ((Unit) ⊕ (Unit))) :=
  lt1 (x3 + 1) fun x3_5 =>
  some (.inl x3_5)
def fX12_areTogether_b10 (sh : Shp) (x0 : Nat) (x1 : Int32) (x2 : Int32) (x3 : Int32) (mm : Mem) : Option ((Int32) ⊕ ((Unit) ⊕ (Unit))) :=
  if x2 ≤ x3 then (some (.inr (Sum.inr (()))))
  else ((rR sh 12 x0 37).bind fun a7 =>
  (fX12_in 42 x1 x2).bind fun v8 =>
  (aL sh mm a7 v8).bind fun v9 =>
  if v9 ≤ 0 then (fX12_areTogether_j74 sh x0 x1 x2 x3 mm)
  else ((rR sh 12 x0 37).bind fun a11 =>
  (fX12_in 42 x1 x3).bind fun v12 =>
  (aL sh mm a11 v12).bind fun v13 =>
  if v13 ≤ 0 then (fX12_areTogether_j74 sh x0 x1 x2 x3 mm)
  else ((rR sh 12 x0 37).bind fun a15 =>
  (fX12_in 84 x1 x2).bind fun v16 =>
  (aL sh mm a15 v16).bind fun v17 =>
  (rR sh 12 x0 37).bind fun a18 =>
  (fX12_in 84 x1 x3).bind fun v19 =>
  (aL sh mm a18 v19).bind fun v20 =>
  if v17 = v20 then (some (.inr (Sum.inl ())))
  else (fX12_areTogether_j74 sh x0 x1 x2 x3 mm))))
def fX12_areTogether_b2 (sh : Shp) (x0 : Nat) (x1 : Int32) (x2 : Int32) (mm : Mem) : Option ((Int32) ⊕ ((Unit) ⊕ (Unit))) :=
  if 7 ≤ x2 then (some (.inr (Sum.inr (()))))
  else (lt1 0 fun x3_4 =>
  (loopN (fun st : Int32 => fX12_areTogether_b10 sh x0 x1 x2 st mm) FU x3_4).bind (Sum.elim (fun t => some (.inr (Sum.inl ()))) (fun t => fX12_areTogether_j80 sh x0 x1 x2 mm)))
def fX12_areTogether (sh : Shp) (x0 : Nat) (x1 : Int32) (mm : Mem) : Option (Int32) :=
  lt1 0 fun x2_1 =>
  (loopN (fun st : Int32 => fX12_areTogether_b2 sh x0 x1 st mm) FU x2_1).bind (Sum.elim (fun t => fX12_areTogether_j72 sh mm) (fun t => fX12_areTogether_j86 sh mm))
def fX12_blurs_j65 (sh : Shp) (x2 : Int32) (mm : Mem) : Option (Int32 × Mem) :=
  some (x2, mm)
def fX12_blurs_j57 (sh : Shp) (x0 : Nat) (x1 : Int32) (x3 : Int32) (s0 : Int32) (s1 : Int32) (mm : Mem) : Option ((Int32 × Int32 × Mem) ⊕ ((Int32 × Mem))) :=
  lt1 (s0 ||| s1) fun x2_7 =>
  lt1 (x3 + 1) fun x3_8 =>
  some (.inl (x2_7, x3_8, mm))
def fX12_blurs_j56 (sh : Shp) (x0 : Nat) (x1 : Int32) (x3 : Int32) (s0 : Int32) (mm : Mem) : Option ((Int32 × Int32 × Mem) ⊕ ((Int32 × Mem))) :=
  fX12_blurs_j57 sh x0 x1 x3 s0 0 mm
def fX12_blurs_b20 (sh : Shp) (x0 : Nat) (x1 : Int32) (x2 : Int32) (x3 : Int32) (mm : Mem) : Option ((Int32 × Int32 × Mem) ⊕ ((Int32 × Mem))) :=
  (rI sh mm 12 x0 18).bind fun v9 =>
  if v9 ≤ x3 then (some (.inr (x2, mm)))
  else ((isO sh 12 x0).bind fun _ =>
  (fX12_take sh x0 mm).bind fun m11 =>
  (isO sh 12 x0).bind fun _ =>
  bd2 (fX12_isParted sh x0 x1 x3 m11) fun v12 m13 =>
  if v12 = 0 then (fX12_blurs_j56 sh x0 x1 x3 x2 m13)
  else ((isO sh 12 x0).bind fun _ =>
  (fX12_areTogether sh x0 x1 m13).bind fun v15 =>
  if v15 = 0 then (fX12_blurs_j56 sh x0 x1 x3 x2 m13)
  else (fX12_blurs_j57 sh x0 x1 x3 x2 (1 <<< (x3 &&& 31)) m13)))
def fX12_blurs (sh : Shp) (x0 : Nat) (x1 : Int32) (mm : Mem) : Option (Int32 × Mem) :=
  (wI sh mm 12 x0 0 0).bind fun m1 =>
  (isO sh 12 x0).bind fun _ =>
  bd2 (fX12_isFellow sh x0 x1 1 m1) fun v2 m3 =>
  if v2 = 0 then (some (0, m3))
  else (lt1 0 fun x2_5 =>
  lt1 0 fun x3_6 =>
  (loopN (fun st : Int32 × Int32 × Mem => fX12_blurs_b20 sh x0 x1 st.1 st.2.1 st.2.2) FU (x2_5, x3_6, m3)).bind (fun t => fX12_blurs_j65 sh t.1 t.2))
def fX12_lit_j43 (sh : Shp) (x1 : Int32) (mm : Mem) : Option (Int32 × Mem) :=
  some (x1, mm)
def fX12_lit_j35 (sh : Shp) (x0 : Nat) (x2 : Int32) (s0 : Int32) (s1 : Int32) (mm : Mem) : Option ((Int32 × Int32) ⊕ ((Int32))) :=
  lt1 (s0 + s1) fun x1_5 =>
  lt1 (x2 + 1) fun x2_6 =>
  some (.inl (x1_5, x2_6))
def fX12_lit_b13 (sh : Shp) (x0 : Nat) (x1 : Int32) (x2 : Int32) (mm : Mem) : Option ((Int32 × Int32) ⊕ ((Int32))) :=
  (rI sh mm 12 x0 19).bind fun v7 =>
  if v7 ≤ x2 then (some (.inr x1))
  else ((isO sh 12 x0).bind fun _ =>
  (fX12_atPlace sh x0 x2 mm).bind fun v9 =>
  if v9 ≤ 0 then (fX12_lit_j35 sh x0 x2 x1 0 mm)
  else (fX12_lit_j35 sh x0 x2 x1 1 mm))
def fX12_lit (sh : Shp) (x0 : Nat) (mm : Mem) : Option (Int32 × Mem) :=
  (wI sh mm 12 x0 0 0).bind fun m1 =>
  (isO sh 12 x0).bind fun _ =>
  (fX12_take sh x0 m1).bind fun m2 =>
  lt1 0 fun x1_3 =>
  lt1 0 fun x2_4 =>
  (loopN (fun st : Int32 × Int32 => fX12_lit_b13 sh x0 st.1 st.2 m2) FU (x1_3, x2_4)).bind (fun t => fX12_lit_j43 sh t m2)
def fX12_strongestOf_j47 (sh : Shp) (x2 : Int32) (mm : Mem) : Option (Int32) :=
  some x2
def fX12_strongestOf_j40 (sh : Shp) (x0 : Nat) (x1 : Int32) (x3 : Int32) (s0 : Int32) (mm : Mem) : Option ((Int32 × Int32) ⊕ ((Int32))) :=
  lt1 s0 fun x2_3 =>
  lt1 (x3 + 1) fun x3_4 =>
  some (.inl (x2_3, x3_4))
def fX12_strongestOf_b4 (sh : Shp) (x0 : Nat) (x1 : Int32) (x2 : Int32) (x3 : Int32) (mm : Mem) : Option ((Int32 × Int32) ⊕ ((Int32))) :=
  if 7 ≤ x3 then (some (.inr x2))
  else ((rR sh 12 x0 36).bind fun a6 =>
  (fX12_in 0 x1 x3).bind fun v7 =>
  (aL sh mm a6 v7).bind fun v8 =>
  if v8 ≤ x2 then (fX12_strongestOf_j40 sh x0 x1 x3 x2 mm)
  else ((rR sh 12 x0 36).bind fun a10 =>
  (fX12_in 0 x1 x3).bind fun v11 =>
  (aL sh mm a10 v11).bind fun v12 =>
  fX12_strongestOf_j40 sh x0 x1 x3 v12 mm))
def fX12_strongestOf (sh : Shp) (x0 : Nat) (x1 : Int32) (mm : Mem) : Option (Int32) :=
  lt1 0 fun x2_1 =>
  lt1 0 fun x3_2 =>
  (loopN (fun st : Int32 × Int32 => fX12_strongestOf_b4 sh x0 x1 st.1 st.2 mm) FU (x2_1, x3_2)).bind (fun t => fX12_strongestOf_j47 sh t mm)
def fX12_lacks_j27 (sh : Shp) (mm : Mem) : Option (Int32 × Mem) :=
  some (0, mm)
def fX12_lacks (sh : Shp) (x0 : Nat) (x1 : Int32) (x2 : Int32) (mm : Mem) : Option (Int32 × Mem) :=
  (wI sh mm 12 x0 0 0).bind fun m1 =>
  (isO sh 12 x0).bind fun _ =>
  bd2 (fX12_isFellow sh x0 x1 1 m1) fun v2 m3 =>
  if v2 = 0 then (fX12_lacks_j27 sh m3)
  else ((fX12_isPart x2).bind fun v5 =>
  (isO sh 12 x0).bind fun _ =>
  bd2 (fX12_may sh x0 v5 2 1 m3) fun v6 m7 =>
  if v6 = 0 then (fX12_lacks_j27 sh m7)
  else ((isO sh 12 x0).bind fun _ =>
  (fX12_strongestOf sh x0 x1 m7).bind fun v9 =>
  (rR sh 12 x0 36).bind fun a10 =>
  (fX12_in 0 x1 x2).bind fun v11 =>
  (aL sh m7 a10 v11).bind fun v12 =>
  some ((v9 - v12), m7)))
def fX12_mates_j80 (sh : Shp) (x2 : Int32) (mm : Mem) : Option (Int32 × Mem) :=
  some (x2, mm)
def fX12_mates_j72 (sh : Shp) (x0 : Nat) (x1 : Int32) (x3 : Int32) (s0 : Int32) (s1 : Int32) (mm : Mem) : Option ((Int32 × Int32) ⊕ ((Int32))) :=
  lt1 (s0 ||| s1) fun x2_8 =>
  lt1 (x3 + 1) fun x3_9 =>
  some (.inl (x2_8, x3_9))
def fX12_mates_j71 (sh : Shp) (x0 : Nat) (x1 : Int32) (x3 : Int32) (s0 : Int32) (mm : Mem) : Option ((Int32 × Int32) ⊕ ((Int32))) :=
  fX12_mates_j72 sh x0 x1 x3 s0 0 mm
def fX12_mates_b24 (sh : Shp) (x0 : Nat) (x1 : Int32) (x2 : Int32) (x3 : Int32) (mm : Mem) : Option ((Int32 × Int32) ⊕ ((Int32))) :=
  (rI sh mm 12 x0 17).bind fun v10 =>
  if v10 ≤ x3 then (some (.inr x2))
  else (lt1 ((1 <<< (x1 &&& 31)) ||| (1 <<< (x3 &&& 31))) fun x4_12 =>
  if x3 = x1 then (fX12_mates_j71 sh x0 x1 x3 x2 mm)
  else ((isO sh 12 x0).bind fun _ =>
  (fX12_spreadOf sh x0 x4_12 mm).bind fun v14 =>
  if v14 = 0 then ((isO sh 12 x0).bind fun _ =>
  (fX12_withinAll sh x0 x4_12 mm).bind fun v16 =>
  if v16 ≤ 0 then (fX12_mates_j71 sh x0 x1 x3 x2 mm)
  else (fX12_mates_j72 sh x0 x1 x3 x2 (1 <<< (x3 &&& 31)) mm))
  else (fX12_mates_j71 sh x0 x1 x3 x2 mm)))
def fX12_mates (sh : Shp) (x0 : Nat) (x1 : Int32) (mm : Mem) : Option (Int32 × Mem) :=
  (wI sh mm 12 x0 0 0).bind fun m1 =>
  (isO sh 12 x0).bind fun _ =>
  bd2 (fX12_isFellow sh x0 x1 1 m1) fun v2 m3 =>
  if v2 = 0 then (some (0, m3))
  else ((isO sh 12 x0).bind fun _ =>
  (fX12_take sh x0 m3).bind fun m5 =>
  lt1 0 fun x2_6 =>
  lt1 0 fun x3_7 =>
  (loopN (fun st : Int32 × Int32 => fX12_mates_b24 sh x0 x1 st.1 st.2 m5) FU (x2_6, x3_7)).bind (fun t => fX12_mates_j80 sh t m5))
def fX12_first_j81 (sh : Shp) (x2 : Int32) (mm : Mem) : Option (Int32 × Mem) :=
  some (x2, mm)
def fX12_first_j75 (sh : Shp) (x0 : Nat) (x1 : Int32) (x2 : Int32) (x3 : Int32) (mm : Mem) : Option ((Int32 × Int32) ⊕ ((Int32))) :=
  lt1 (x3 + 1) fun x3_7 =>
  some (.inl (x2, x3_7))
def fX12_first_j73 (sh : Shp) (x0 : Nat) (x1 : Int32) (x3 : Int32) (mm : Mem) : Option ((Int32 × Int32) ⊕ ((Int32))) :=
  lt1 x3 fun x2_8 =>
  fX12_first_j75 sh x0 x1 x2_8 x3 mm
def fX12_first_b20 (sh : Shp) (x0 : Nat) (x1 : Int32) (x2 : Int32) (x3 : Int32) (mm : Mem) : Option ((Int32 × Int32) ⊕ ((Int32))) :=
  if 7 ≤ x3 then (some (.inr x2))
  else ((rR sh 12 x0 36).bind fun a10 =>
  (fX12_in 42 x1 x3).bind fun v11 =>
  (aL sh mm a10 v11).bind fun v12 =>
  if v12 ≤ 0 then (fX12_first_j75 sh x0 x1 x2 x3 mm)
  else (if x2 = (-1) then (fX12_first_j73 sh x0 x1 x3 mm)
  else ((rR sh 12 x0 36).bind fun a15 =>
  (fX12_in 84 x1 x3).bind fun v16 =>
  (aL sh mm a15 v16).bind fun v17 =>
  (rR sh 12 x0 36).bind fun a18 =>
  (fX12_in 84 x1 x2).bind fun v19 =>
  (aL sh mm a18 v19).bind fun v20 =>
  if v20 ≤ v17 then (fX12_first_j75 sh x0 x1 x2 x3 mm)
  else (fX12_first_j73 sh x0 x1 x3 mm))))
def fX12_first (sh : Shp) (x0 : Nat) (x1 : Int32) (mm : Mem) : Option (Int32 × Mem) :=
  (wI sh mm 12 x0 0 0).bind fun m1 =>
  (isO sh 12 x0).bind fun _ =>
  bd2 (fX12_isFellow sh x0 x1 1 m1) fun v2 m3 =>
  if v2 = 0 then (some (0, m3))
  else (lt1 (-1) fun x2_5 =>
  lt1 0 fun x3_6 =>
  (loopN (fun st : Int32 × Int32 => fX12_first_b20 sh x0 x1 st.1 st.2 m3) FU (x2_5, x3_6)).bind (fun t => fX12_first_j81 sh t m3))
def fX12_halo_j99 (sh : Shp) (x3 : Int32) (mm : Mem) : Option (Int32 × Mem) :=
  some (x3, mm)
def fX12_halo_j91 (sh : Shp) (x0 : Nat) (x1 : Int32) (x2 : Int32) (x4 : Int32) (s0 : Int32) (s1 : Int32) (mm : Mem) : Option ((Int32 × Int32) ⊕ ((Int32))) :=
  lt1 (s0 + s1) fun x3_6 =>
  lt1 (x4 + 1) fun x4_7 =>
  some (.inl (x3_6, x4_7))
def fX12_halo_b50 (sh : Shp) (x0 : Nat) (x1 : Int32) (x2 : Int32) (x3 : Int32) (x4 : Int32) (mm : Mem) : Option ((Int32 × Int32) ⊕ ((Int32))) :=
  if 42 ≤ x4 then (some (.inr x3))
  else ((rR sh 12 x0 36).bind fun a9 =>
  (aL sh mm a9 (84 + x4)).bind fun v10 =>
  (fX12_size (v10 - x1)).bind fun v11 =>
  if x2 < v11 then (fX12_halo_j91 sh x0 x1 x2 x4 x3 0 mm)
  else ((rR sh 12 x0 36).bind fun a13 =>
  (aL sh mm a13 (42 + x4)).bind fun v14 =>
  fX12_halo_j91 sh x0 x1 x2 x4 x3 v14 mm))
def fX12_halo_j35 (sh : Shp) (x0 : Nat) (x1 : Int32) (x2 : Int32) (s0 : Nat) (s1 : Int32) (mm : Mem) : Option (Int32 × Mem) :=
  (isO sh 12 s0).bind fun _ =>
  bd2 (fX12_may sh s0 s1 1 1 mm) fun v1 m2 =>
  if v1 = 0 then (some (0, m2))
  else (lt1 0 fun x3_4 =>
  lt1 0 fun x4_5 =>
  (loopN (fun st : Int32 × Int32 => fX12_halo_b50 sh x0 x1 x2 st.1 st.2 m2) FU (x3_4, x4_5)).bind (fun t => fX12_halo_j99 sh t m2))
def fX12_halo_j34 (sh : Shp) (x0 : Nat) (x1 : Int32) (x2 : Int32) (s0 : Nat) (mm : Mem) : Option (Int32 × Mem) :=
  fX12_halo_j35 sh x0 x1 x2 s0 0 mm
def fX12_halo (sh : Shp) (x0 : Nat) (x1 : Int32) (x2 : Int32) (mm : Mem) : Option (Int32 × Mem) :=
  (wI sh mm 12 x0 0 0).bind fun m15 =>
  (rI sh m15 12 x0 19).bind fun v16 =>
  (fX12_within x1 0 (v16 - 1)).bind fun v17 =>
  if v17 = 0 then (fX12_halo_j34 sh x0 x1 x2 x0 m15)
  else ((fX12_within x2 0 99).bind fun v19 =>
  if v19 = 0 then (fX12_halo_j34 sh x0 x1 x2 x0 m15)
  else (fX12_halo_j35 sh x0 x1 x2 x0 1 m15))
def fX12_draws (sh : Shp) (x0 : Nat) (x1 : Int32) (mm : Mem) : Option (Int32 × Mem) :=
  (rI sh mm 12 x0 47).bind fun v1 =>
  (wI sh mm 12 x0 47 ((v1 * 1103515245) + 12345)).bind fun m2 =>
  (rI sh m2 12 x0 47).bind fun v3 =>
  (rmI ((v3 >>> (16 &&& 31)) &&& 32767) x1).bind fun v4 =>
  some (v4, m2)
def fX12_termGoes_j133 (sh : Shp) (mm : Mem) : Option (Mem) :=
  some mm
def fX12_termGoes_j123 (sh : Shp) (x0 : Nat) (x2 : Int32) (x3 : Int32) (x4 : Int32) (mm : Mem) : Option ((Int32 × Mem) ⊕ ((Mem))) :=
  (isO sh 12 x0).bind fun _ =>
  (fX12_passes sh x0 mm).bind fun m4 =>
  lt1 (x4 + 1) fun x4_5 =>
  some (.inl (x4_5, m4))
def fX12_termGoes_j72 (sh : Shp) (x0 : Nat) (x2 : Int32) (x3 : Int32) (x4 : Int32) (mm : Mem) : Option ((Int32 × Mem) ⊕ ((Mem))) :=
  (isO sh 12 x0).bind fun _ =>
  bd2 (fX12_draws sh x0 16 mm) fun v6 m7 =>
  if x2 ≤ v6 then (fX12_termGoes_j123 sh x0 x2 x3 x4 m7)
  else ((rI sh m7 12 x0 17).bind fun v9 =>
  (isO sh 12 x0).bind fun _ =>
  bd2 (fX12_draws sh x0 v9 m7) fun v10 m11 =>
  lt1 v10 fun x7_12 =>
  (isO sh 12 x0).bind fun _ =>
  bd2 (fX12_draws sh x0 7 m11) fun v13 m14 =>
  lt1 v13 fun x8_15 =>
  (fX12_in 0 x7_12 x8_15).bind fun v16 =>
  (fX12_in 126 x7_12 x8_15).bind fun v17 =>
  (isO sh 12 x0).bind fun _ =>
  bd2 (fX12_isMoved sh x0 v16 v17 1 m14) fun v18 m19 =>
  fX12_termGoes_j123 sh x0 x2 x3 x4 m19)
def fX12_termGoes_b12 (sh : Shp) (x0 : Nat) (x2 : Int32) (x3 : Int32) (x4 : Int32) (mm : Mem) : Option ((Int32 × Mem) ⊕ ((Mem))) :=
  if x3 ≤ x4 then (some (.inr mm))
  else ((rI sh mm 12 x0 17).bind fun v21 =>
  if v21 ≤ 0 then (fX12_termGoes_j123 sh x0 x2 x3 x4 mm)
  else ((rI sh mm 12 x0 18).bind fun v23 =>
  if v23 ≤ 0 then (fX12_termGoes_j123 sh x0 x2 x3 x4 mm)
  else ((rI sh mm 12 x0 17).bind fun v25 =>
  (isO sh 12 x0).bind fun _ =>
  bd2 (fX12_draws sh x0 v25 mm) fun v26 m27 =>
  lt1 v26 fun x5_28 =>
  (rI sh m27 12 x0 18).bind fun v29 =>
  (isO sh 12 x0).bind fun _ =>
  bd2 (fX12_draws sh x0 v29 m27) fun v30 m31 =>
  lt1 v30 fun x6_32 =>
  (isO sh 12 x0).bind fun _ =>
  bd2 (fX12_isParted sh x0 x5_28 x6_32 m31) fun v33 m34 =>
  if v33 = 0 then ((isO sh 12 x0).bind fun _ =>
  bd2 (fX12_isJoined sh x0 x5_28 x6_32 m34) fun v36 m37 =>
  fX12_termGoes_j72 sh x0 x2 x3 x4 m37)
  else (fX12_termGoes_j72 sh x0 x2 x3 x4 m34))))
def fX12_termGoes (sh : Shp) (x0 : Nat) (x1 : Int32) (x2 : Int32) (x3 : Int32) (mm : Mem) : Option (Mem) :=
  (isO sh 12 x0).bind fun _ =>
  (fX12_take sh x0 mm).bind fun m1 =>
  (wI sh m1 12 x0 47 x1).bind fun m2 =>
  lt1 0 fun x4_3 =>
  (loopN (fun st : Int32 × Mem => fX12_termGoes_b12 sh x0 x2 x3 st.1 st.2) FU (x4_3, m2)).bind (fun t => fX12_termGoes_j133 sh t)
def fX12_isTerm_j26 (s0 : Int32) : Option (Int32) :=
  (ckZ s0).bind fun v1 => some v1
def fX12_isTerm_j25 : Option (Int32) :=
  fX12_isTerm_j26 0
def fX12_isTerm (x0 : Int32) (x1 : Int32) : Option (Int32) :=
  if x0 < 0 then (fX12_isTerm_j25 )
  else (if 16 < x0 then (fX12_isTerm_j25 )
  else (if x1 < 1 then (fX12_isTerm_j25 )
  else (if 48 < x1 then (fX12_isTerm_j25 )
  else (fX12_isTerm_j26 1))))
def fX12_term_j130 (sh : Shp) (s0 : Int32) (mm : Mem) : Option (Int32 × Mem) :=
  some (s0, mm)
def fX12_term_j105 (sh : Shp) (x0 : Nat) (x4 : Int32) (x5 : Int32) (mm : Mem) : Option (Int32 × Mem) :=
  if x4 = 2 then ((isO sh 12 x0).bind fun _ =>
  (fX12_sumOf sh x0 168 6 mm).bind fun v3 =>
  fX12_term_j130 sh (v3 - x5) mm)
  else ((isO sh 12 x0).bind fun _ =>
  (fX12_whites sh x0 mm).bind fun v2 =>
  fX12_term_j130 sh v2 mm)
def fX12_term_j64 (sh : Shp) (s0 : Nat) (s1 : Int32) (mm : Mem) : Option (Int32 × Mem) :=
  (isO sh 12 s0).bind fun _ =>
  (fX12_sumOf sh s0 s1 42 mm).bind fun v4 =>
  some (v4, mm)
def fX12_term_b76 (sh : Shp) (x0 : Nat) (x4 : Int32) (x5 : Int32) (x6 : Int32) (mm : Mem) : Option ((Int32 × Int32) ⊕ ((Int32))) :=
  if 6 ≤ x6 then (some (.inr x5))
  else ((rR sh 12 x0 36).bind fun a13 =>
  (aL sh mm a13 (168 + x6)).bind fun v14 =>
  lt1 (x5 + v14) fun x5_15 =>
  lt1 (x6 + 1) fun x6_16 =>
  some (.inl (x5_15, x6_16)))
def fX12_term_j29 (sh : Shp) (x0 : Nat) (x1 : Int32) (x2 : Int32) (x3 : Int32) (x4 : Int32) (s0 : Nat) (s1 : Int32) (mm : Mem) : Option (Int32 × Mem) :=
  (isO sh 12 s0).bind fun _ =>
  bd2 (fX12_may sh s0 s1 1 1 mm) fun v5 m6 =>
  if v5 = 0 then (some (0, m6))
  else ((isO sh 12 x0).bind fun _ =>
  (fX12_termGoes sh x0 x1 x2 x3 m6).bind fun m8 =>
  if 2 ≤ x4 then (lt1 0 fun x5_10 =>
  lt1 0 fun x6_11 =>
  (loopN (fun st : Int32 × Int32 => fX12_term_b76 sh x0 x4 st.1 st.2 m8) FU (x5_10, x6_11)).bind (fun t => fX12_term_j105 sh x0 x4 t m8))
  else (if x4 = 0 then (fX12_term_j64 sh x0 0 m8)
  else (fX12_term_j64 sh x0 42 m8)))
def fX12_term_j28 (sh : Shp) (x0 : Nat) (x1 : Int32) (x2 : Int32) (x3 : Int32) (x4 : Int32) (s0 : Nat) (mm : Mem) : Option (Int32 × Mem) :=
  fX12_term_j29 sh x0 x1 x2 x3 x4 s0 0 mm
def fX12_term (sh : Shp) (x0 : Nat) (x1 : Int32) (x2 : Int32) (x3 : Int32) (x4 : Int32) (mm : Mem) : Option (Int32 × Mem) :=
  (wI sh mm 12 x0 0 0).bind fun m18 =>
  (fX12_isTerm x2 x3).bind fun v19 =>
  if v19 = 0 then (fX12_term_j28 sh x0 x1 x2 x3 x4 x0 m18)
  else ((fX12_within x4 0 3).bind fun v21 =>
  if v21 = 0 then (fX12_term_j28 sh x0 x1 x2 x3 x4 x0 m18)
  else (fX12_term_j29 sh x0 x1 x2 x3 x4 x0 1 m18))
def fX12_span_j189 (sh : Shp) (s0 : Int32) (mm : Mem) : Option (Int32 × Mem) :=
  some (s0, mm)
def fX12_span_j166 (sh : Shp) (x5 : Int32) (x7 : Int32) (x8 : Int32) (x9 : Int32) (mm : Mem) : Option (Int32 × Mem) :=
  if x5 = 0 then (fX12_span_j189 sh x7 mm)
  else (if x5 = 1 then (fX12_span_j189 sh x8 mm)
  else (fX12_span_j189 sh x9 mm))
def fX12_span_j157 (sh : Shp) (x0 : Nat) (x1 : Int32) (x2 : Int32) (x3 : Int32) (x4 : Int32) (x5 : Int32) (x6 : Int32) (x7 : Int32) (x8 : Int32) (x10 : Int32) (s0 : Int32) (s1 : Int32) (mm : Mem) : Option ((Int32 × Int32 × Int32 × Int32 × Mem) ⊕ ((Int32 × Int32 × Int32 × Mem))) :=
  lt1 (s0 + s1) fun x9_10 =>
  lt1 (x10 + 1) fun x10_11 =>
  some (.inl (x7, x8, x9_10, x10_11, mm))
def fX12_span_j139 (sh : Shp) (x0 : Nat) (x1 : Int32) (x2 : Int32) (x3 : Int32) (x4 : Int32) (x5 : Int32) (x6 : Int32) (x7 : Int32) (x9 : Int32) (x10 : Int32) (s0 : Int32) (mm : Mem) : Option ((Int32 × Int32 × Int32 × Int32 × Mem) ⊕ ((Int32 × Int32 × Int32 × Mem))) :=
  lt1 s0 fun x8_12 =>
  (isO sh 12 x0).bind fun _ =>
  (fX12_withinOf sh x0 x6 mm).bind fun v13 =>
  if v13 ≤ 0 then (fX12_span_j157 sh x0 x1 x2 x3 x4 x5 x6 x7 x8_12 x10 x9 0 mm)
  else (fX12_span_j157 sh x0 x1 x2 x3 x4 x5 x6 x7 x8_12 x10 x9 1 mm)
def fX12_span_j123 (sh : Shp) (x0 : Nat) (x1 : Int32) (x2 : Int32) (x3 : Int32) (x4 : Int32) (x5 : Int32) (x6 : Int32) (x8 : Int32) (x9 : Int32) (x10 : Int32) (x11 : Int32) (s0 : Int32) (mm : Mem) : Option ((Int32 × Int32 × Int32 × Int32 × Mem) ⊕ ((Int32 × Int32 × Int32 × Mem))) :=
  lt1 s0 fun x7_15 =>
  if x11 ≤ x8 then (fX12_span_j139 sh x0 x1 x2 x3 x4 x5 x6 x7_15 x9 x10 x8 mm)
  else (fX12_span_j139 sh x0 x1 x2 x3 x4 x5 x6 x7_15 x9 x10 x11 mm)
def fX12_span_j116 (sh : Shp) (x0 : Nat) (x1 : Int32) (x2 : Int32) (x3 : Int32) (x4 : Int32) (x5 : Int32) (x6 : Int32) (x8 : Int32) (x9 : Int32) (x10 : Int32) (x11 : Int32) (mm : Mem) : Option ((Int32 × Int32 × Int32 × Int32 × Mem) ⊕ ((Int32 × Int32 × Int32 × Mem))) :=
  fX12_span_j123 sh x0 x1 x2 x3 x4 x5 x6 x8 x9 x10 x11 x11 mm
def fX12_span_b77 (sh : Shp) (x0 : Nat) (x1 : Int32) (x2 : Int32) (x3 : Int32) (x4 : Int32) (x5 : Int32) (x6 : Int32) (x7 : Int32) (x8 : Int32) (x9 : Int32) (x10 : Int32) (mm : Mem) : Option ((Int32 × Int32 × Int32 × Int32 × Mem) ⊕ ((Int32 × Int32 × Int32 × Mem))) :=
  if x2 ≤ x10 then (some (.inr (x7, x8, x9, mm)))
  else ((isO sh 12 x0).bind fun _ =>
  (fX12_termGoes sh x0 (x1 + x10) x3 x4 mm).bind fun m18 =>
  (isO sh 12 x0).bind fun _ =>
  (fX12_sumOf sh x0 0 42 m18).bind fun v19 =>
  lt1 v19 fun x11_20 =>
  if x7 = (-1) then (fX12_span_j116 sh x0 x1 x2 x3 x4 x5 x6 x8 x9 x10 x11_20 m18)
  else (if x7 ≤ x11_20 then (fX12_span_j123 sh x0 x1 x2 x3 x4 x5 x6 x8 x9 x10 x11_20 x7 m18)
  else (fX12_span_j116 sh x0 x1 x2 x3 x4 x5 x6 x8 x9 x10 x11_20 m18)))
def fX12_span_j55 (sh : Shp) (x0 : Nat) (x1 : Int32) (x2 : Int32) (x3 : Int32) (x4 : Int32) (x5 : Int32) (x6 : Int32) (s0 : Nat) (s1 : Int32) (mm : Mem) : Option (Int32 × Mem) :=
  (isO sh 12 s0).bind fun _ =>
  bd2 (fX12_may sh s0 s1 1 1 mm) fun v3 m4 =>
  if v3 = 0 then (some (0, m4))
  else (lt1 (-1) fun x7_6 =>
  lt1 0 fun x8_7 =>
  lt1 0 fun x9_8 =>
  lt1 0 fun x10_9 =>
  (loopN (fun st : Int32 × Int32 × Int32 × Int32 × Mem => fX12_span_b77 sh x0 x1 x2 x3 x4 x5 x6 st.1 st.2.1 st.2.2.1 st.2.2.2.1 st.2.2.2.2) FU (x7_6, x8_7, x9_8, x10_9, m4)).bind (fun t => fX12_span_j166 sh x5 t.1 t.2.1 t.2.2.1 t.2.2.2))
def fX12_span_j54 (sh : Shp) (x0 : Nat) (x1 : Int32) (x2 : Int32) (x3 : Int32) (x4 : Int32) (x5 : Int32) (x6 : Int32) (s0 : Nat) (mm : Mem) : Option (Int32 × Mem) :=
  fX12_span_j55 sh x0 x1 x2 x3 x4 x5 x6 s0 0 mm
def fX12_span (sh : Shp) (x0 : Nat) (x1 : Int32) (x2 : Int32) (x3 : Int32) (x4 : Int32) (x5 : Int32) (x6 : Int32) (mm : Mem) : Option (Int32 × Mem) :=
  (wI sh mm 12 x0 0 0).bind fun m23 =>
  (fX12_within x2 1 10).bind fun v24 =>
  if v24 = 0 then (fX12_span_j54 sh x0 x1 x2 x3 x4 x5 x6 x0 m23)
  else ((fX12_isTerm x3 x4).bind fun v26 =>
  if v26 = 0 then (fX12_span_j54 sh x0 x1 x2 x3 x4 x5 x6 x0 m23)
  else ((fX12_within x5 0 2).bind fun v28 =>
  if v28 = 0 then (fX12_span_j54 sh x0 x1 x2 x3 x4 x5 x6 x0 m23)
  else ((rI sh m23 12 x0 17).bind fun v30 =>
  (fX12_within x6 0 (v30 - 1)).bind fun v31 =>
  if v31 = 0 then (fX12_span_j54 sh x0 x1 x2 x3 x4 x5 x6 x0 m23)
  else (fX12_span_j55 sh x0 x1 x2 x3 x4 x5 x6 x0 1 m23))))
def fX12_keepsRow_j49 (sh : Shp) (x1 : Int32) (x3 : Int32) (mm : Mem) : Option (Int32 × Mem) :=
  some ((x1 + x3), mm)
def fX12_keepsRow_j43 (sh : Shp) (x0 : Nat) (x1 : Int32) (x2 : Nat) (x3 : Int32) (x4 : Int32) (x5 : Int32) (mm : Mem) : Option ((Int32 × Mem) ⊕ ((Mem))) :=
  lt1 (x5 + 1) fun x5_2 =>
  some (.inl (x5_2, mm))
def fX12_keepsRow_b3 (sh : Shp) (x0 : Nat) (x1 : Int32) (x2 : Nat) (x3 : Int32) (x4 : Int32) (x5 : Int32) (mm : Mem) : Option ((Int32 × Mem) ⊕ ((Mem))) :=
  if x3 ≤ x5 then (some (.inr mm))
  else (if x4 = 0 then ((rR sh 12 x0 48).bind fun a5 =>
  (aL sh mm a5 (x1 + x5)).bind fun v6 =>
  (aS sh mm x2 x5 v6).bind fun m7 =>
  fX12_keepsRow_j43 sh x0 x1 x2 x3 x4 x5 m7)
  else ((rR sh 12 x0 48).bind fun a8 =>
  (aL sh mm x2 x5).bind fun v9 =>
  (aS sh mm a8 (x1 + x5) v9).bind fun m10 =>
  fX12_keepsRow_j43 sh x0 x1 x2 x3 x4 x5 m10))
def fX12_keepsRow (sh : Shp) (x0 : Nat) (x1 : Int32) (x2 : Nat) (x3 : Int32) (x4 : Int32) (mm : Mem) : Option (Int32 × Mem) :=
  lt1 0 fun x5_1 =>
  (loopN (fun st : Int32 × Mem => fX12_keepsRow_b3 sh x0 x1 x2 x3 x4 st.1 st.2) FU (x5_1, mm)).bind (fun t => fX12_keepsRow_j49 sh x1 x3 t)
def fX12_keepsAll_j59 (sh : Shp) (mm : Mem) : Option (Mem) :=
  some mm
def fX12_keepsAll (sh : Shp) (x0 : Nat) (x1 : Int32) (x2 : Int32) (mm : Mem) : Option (Mem) :=
  (rR sh 12 x0 36).bind fun a1 =>
  (isO sh 12 x0).bind fun _ =>
  bd2 (fX12_keepsRow sh x0 (2976 * x1) a1 175 x2 mm) fun v2 m3 =>
  lt1 v2 fun x3_4 =>
  (rR sh 12 x0 38).bind fun a5 =>
  (isO sh 12 x0).bind fun _ =>
  bd2 (fX12_keepsRow sh x0 x3_4 a5 2800 x2 m3) fun v6 m7 =>
  lt1 v6 fun x3_8 =>
  if x2 = 0 then ((rR sh 12 x0 48).bind fun a10 =>
  (aL sh m7 a10 x3_8).bind fun v11 =>
  (wI sh m7 12 x0 31 v11).bind fun m12 =>
  fX12_keepsAll_j59 sh m12)
  else ((rR sh 12 x0 48).bind fun a13 =>
  (rI sh m7 12 x0 31).bind fun v14 =>
  (aS sh m7 a13 x3_8 v14).bind fun m15 =>
  fX12_keepsAll_j59 sh m15)
def fX12_image (sh : Shp) (x0 : Nat) (mm : Mem) : Option (Int32 × Mem) :=
  (wI sh mm 12 x0 0 0).bind fun m1 =>
  (rI sh m1 12 x0 49).bind fun v2 =>
  if v2 = 3 then (some ((-1), m1))
  else ((rI sh m1 12 x0 49).bind fun v4 =>
  (isO sh 12 x0).bind fun _ =>
  (fX12_keepsAll sh x0 v4 1 m1).bind fun m5 =>
  (rI sh m5 12 x0 49).bind fun v6 =>
  (wI sh m5 12 x0 49 (v6 + 1)).bind fun m7 =>
  (rI sh m7 12 x0 49).bind fun v8 =>
  some (v8, m7))
def fX12_restore (sh : Shp) (x0 : Nat) (mm : Mem) : Option (Int32 × Mem) :=
  (wI sh mm 12 x0 0 0).bind fun m1 =>
  (rI sh m1 12 x0 49).bind fun v2 =>
  if v2 = 0 then (some ((-1), m1))
  else ((rI sh m1 12 x0 49).bind fun v4 =>
  (wI sh m1 12 x0 49 (v4 - 1)).bind fun m5 =>
  (rI sh m5 12 x0 49).bind fun v6 =>
  (isO sh 12 x0).bind fun _ =>
  (fX12_keepsAll sh x0 v6 0 m5).bind fun m7 =>
  (wI sh m7 12 x0 32 0).bind fun m8 =>
  (rI sh m8 12 x0 49).bind fun v9 =>
  some (v9, m8))
def fX12_status_j24 (sh : Shp) (s0 : Int32) (mm : Mem) : Option (Int32 × Mem) :=
  some (s0, mm)
def fX12_status (sh : Shp) (x0 : Nat) (x1 : Int32) (mm : Mem) : Option (Int32 × Mem) :=
  (wI sh mm 12 x0 0 0).bind fun m1 =>
  (fX12_within x1 0 1).bind fun v2 =>
  if v2 = 0 then (fX12_status_j24 sh (-1) m1)
  else ((rR sh 12 x0 1).bind fun a4 =>
  (aL sh m1 a4 x1).bind fun v5 =>
  fX12_status_j24 sh v5 m1)
def fX12_count_j41 (sh : Shp) (s0 : Int32) (mm : Mem) : Option (Int32 × Mem) :=
  some (s0, mm)
def fX12_count (sh : Shp) (x0 : Nat) (x1 : Int32) (mm : Mem) : Option (Int32 × Mem) :=
  (wI sh mm 12 x0 0 0).bind fun m1 =>
  if x1 = 0 then ((rI sh m1 12 x0 49).bind fun v7 =>
  fX12_count_j41 sh v7 m1)
  else (if x1 = 1 then ((rI sh m1 12 x0 2).bind fun v6 =>
  fX12_count_j41 sh v6 m1)
  else (if x1 = 2 then ((rI sh m1 12 x0 31).bind fun v5 =>
  fX12_count_j41 sh v5 m1)
  else (fX12_count_j41 sh (-1) m1)))
set_option maxHeartbeats 4000000 in
set_option maxRecDepth 100000 in
theorem wX12_told {p : Program} {l : Launch} {e : Env} {R : Room} {s : State} {m : MethodId} {args : Array Value} {below : List Frame} {meth : Method} {c : Code} {Q : State → Prop} {E : Ev} (X : Cx p s m args c cX12_told RX12 E) (hml : c.maxLocals = 2) (hR : 3 ≤ R.frames ∧ 67 ≤ R.locals) {x0 : Nat} {x1 : Int32} {mm : Mem} {r : Int32} {mm1 : Mem} (hf : fX12_told (eS E) x0 x1 mm = some (r, mm1)) (hret : ∀ (pc : Nat) (H : Heap) (locs : List Loc) (ls : Array Slot), narrow .int (.int r) = .int r → decode cX12_told pc = .ok (.ireturn, 1) → wS E s mm1 H locs → W p l e R s m args below meth c H locs 0 0 Q (F0 m pc ls [.int r])) : ∀ (H : Heap) (locs : List Loc) (ls : Array Slot), wS E s mm H locs → lv_has ls 2 [(0, .ref x0), (1, .int x1)] → W p l e R s m args below meth c H locs 0 0 Q (F0 m 0 ls []) := by
  have hx := X.1
  have hb := X.2.1
  unfold fX12_told at hf
  have hj170 : ∀ (s0 : Int32) (mm : Mem) (H : Heap) (locs : List Loc) (ls : Array Slot), fX12_told_j170 (eS E) s0 mm = some (r, mm1) → wS E s mm H locs → lv_has ls 2 [] → W p l e R s m args below meth c H locs 0 0 Q (F0 m 170 ls [.int s0]) := by
    intro s0 mm H locs ls hf hS hl
    unfold fX12_told_j170 at hf
    cases hf
    exact hret _ _ _ _ rfl dX12_told_170 hS
  have hj129 : ∀ (s0 : Nat) (s1 : Int32) (mm : Mem) (H : Heap) (locs : List Loc) (ls : Array Slot), fX12_told_j129 (eS E) s0 s1 mm = some (r, mm1) → wS E s mm H locs → lv_has ls 2 [] → W p l e R s m args below meth c H locs 0 0 Q (F0 m 129 ls [.int s1, .ref s0]) := by
    intro s0 s1 mm H locs ls hf hS hl
    unfold fX12_told_j129 at hf
    refine lv_bipush (v := 42) hx hb dX12_told_129 (by decide) ?_
    obtain ⟨u0, h0, hf⟩ := bs hf
    obtain ⟨_, hrc⟩ := isO_n h0
    obtain ⟨v1, h1, hf⟩ := bs hf
    refine am_endi hS (am_runV (As := [.int s1, .int 42]) X (hml.trans hl.1.symm) hS (cX12_sumOf_ok (l := l) (E := E) h1) mv_X12_322 hrc rfl ⟨Nat.le_trans (by decide) hR.1, Nat.le_trans (by decide) hR.2⟩ ⟨Nat.zero_le _, Nat.zero_le _⟩ rfl rfl (Nat.le_of_ble_eq_true rfl) dX12_told_131) (fun H locs hS => ?_)
    cases hf
    exact hret _ _ _ _ rfl dX12_told_134 hS
  have hj98 : ∀ (s0 : Int32) (mm : Mem) (H : Heap) (locs : List Loc) (ls : Array Slot), fX12_told_j98 (eS E) s0 mm = some (r, mm1) → wS E s mm H locs → lv_has ls 2 [] → W p l e R s m args below meth c H locs 0 0 Q (F0 m 98 ls [.int s0]) := by
    intro s0 mm H locs ls hf hS hl
    unfold fX12_told_j98 at hf
    cases hf
    exact hret _ _ _ _ rfl dX12_told_98 hS
  have hj75 : ∀ (s0 : Int32) (mm : Mem) (H : Heap) (locs : List Loc) (ls : Array Slot), fX12_told_j75 (eS E) s0 mm = some (r, mm1) → wS E s mm H locs → lv_has ls 2 [] → W p l e R s m args below meth c H locs 0 0 Q (F0 m 75 ls [.int s0]) := by
    intro s0 mm H locs ls hf hS hl
    unfold fX12_told_j75 at hf
    cases hf
    exact hret _ _ _ _ rfl dX12_told_75 hS
  intro H locs ls hS hl
  refine lv_aload_n hx hb dX12_told_0 rfl (lv_at hl 0 rfl) ?_
  refine lv_iconst (v := 0) hx hb dX12_told_1 (by decide) ?_
  obtain ⟨m2, h1, hf⟩ := bs hf
  refine am_pi X hS fp_X12_3 rfl h1 dX12_told_2 (fun H locs hS => ?_)
  refine lv_aload_n hx hb dX12_told_5 rfl (lv_at hl 0 rfl) ?_
  refine lv_iload_n hx hb dX12_told_6 rfl (lv_at hl 1 rfl) ?_
  refine lv_iconst (v := 0) hx hb dX12_told_7 (by decide) ?_
  refine lv_bipush (v := 11) hx hb dX12_told_8 (by decide) ?_
  obtain ⟨v3, h1, hf⟩ := bs hf
  refine am_endi hS (am_runS (As := [.int x1, .int 0, .int 11]) X (hml.trans hl.1.symm) hS (cX12_within_ok (l := l) (E := E) h1) ms_X12_368 ⟨Nat.le_trans (by decide) hR.1, Nat.le_trans (by decide) hR.2⟩ ⟨Nat.zero_le _, Nat.zero_le _⟩ rfl rfl (Nat.le_of_ble_eq_true rfl) dX12_told_10) (fun H locs hS => ?_)
  refine lv_iconst (v := 1) hx hb dX12_told_13 (by decide) ?_
  refine lv_iconst (v := 1) hx hb dX12_told_14 (by decide) ?_
  obtain ⟨u0, h0, hf⟩ := bs hf
  obtain ⟨_, hrc⟩ := isO_n h0
  obtain ⟨v4, m5, h1, hf⟩ := bs2 hf
  refine am_endi hS (am_runV (As := [.int v3, .int 1, .int 1]) X (hml.trans hl.1.symm) hS (cX12_may_ok (l := l) (E := E) h1) mv_X12_190 hrc rfl ⟨Nat.le_trans (by decide) hR.1, Nat.le_trans (by decide) hR.2⟩ ⟨Nat.zero_le _, Nat.zero_le _⟩ rfl rfl (Nat.le_of_ble_eq_true rfl) dX12_told_15) (fun H locs hS => ?_)
  refine lv_if_ne (tgt := 23) hx hb dX12_told_18 (by decide) (fun q6 => ?_) (fun q6 => ?_)
  · have hf := ifn hf q6
    refine lv_aload_n hx hb dX12_told_23 rfl (lv_at hl 0 rfl) ?_
    obtain ⟨u0, h0, hf⟩ := bs hf
    obtain ⟨_, hrc⟩ := isO_n h0
    obtain ⟨m7, h1, hf⟩ := bs hf
    refine am_endv hS (am_runV (As := []) X (hml.trans hl.1.symm) hS (cX12_take_ok (l := l) (E := E) h1) mv_X12_301 hrc rfl ⟨Nat.le_trans (by decide) hR.1, Nat.le_trans (by decide) hR.2⟩ ⟨Nat.zero_le _, Nat.zero_le _⟩ rfl rfl (Nat.le_of_ble_eq_true rfl) dX12_told_24) (fun H locs hS => ?_)
    refine lv_iload_n hx hb dX12_told_27 rfl (lv_at hl 1 rfl) ?_
    refine lv_iconst (v := 4) hx hb dX12_told_28 (by decide) ?_
    refine lv_icmp_ge (tgt := 76) hx hb dX12_told_29 (by decide) (fun q8 => ?_) (fun q8 => ?_)
    · have hf := ifp hf q8
      refine lv_iload_n hx hb dX12_told_76 rfl (lv_at hl 1 rfl) ?_
      refine lv_bipush (v := 6) hx hb dX12_told_77 (by decide) ?_
      refine lv_icmp_ge (tgt := 99) hx hb dX12_told_79 (by decide) (fun q9 => ?_) (fun q9 => ?_)
      · have hf := ifp hf q9
        refine lv_iload_n hx hb dX12_told_99 rfl (lv_at hl 1 rfl) ?_
        refine lv_bipush (v := 9) hx hb dX12_told_100 (by decide) ?_
        refine lv_icmp_ge (tgt := 135) hx hb dX12_told_102 (by decide) (fun q10 => ?_) (fun q10 => ?_)
        · have hf := ifp hf q10
          refine lv_iload_n hx hb dX12_told_135 rfl (lv_at hl 1 rfl) ?_
          refine lv_bipush (v := 9) hx hb dX12_told_136 (by decide) ?_
          refine lv_icmp_ne (tgt := 148) hx hb dX12_told_138 (by decide) (fun q11 => ?_) (fun q11 => ?_)
          · have hf := ifn hf q11
            refine lv_iload_n hx hb dX12_told_148 rfl (lv_at hl 1 rfl) ?_
            refine lv_bipush (v := 10) hx hb dX12_told_149 (by decide) ?_
            refine lv_icmp_ne (tgt := 161) hx hb dX12_told_151 (by decide) (fun q12 => ?_) (fun q12 => ?_)
            · have hf := ifn hf q12
              refine lv_aload_n hx hb dX12_told_161 rfl (lv_at hl 0 rfl) ?_
              refine lv_sipush (v := 168) hx hb dX12_told_162 (by decide) ?_
              refine lv_bipush (v := 6) hx hb dX12_told_165 (by decide) ?_
              obtain ⟨u0, h0, hf⟩ := bs hf
              obtain ⟨_, hrc⟩ := isO_n h0
              obtain ⟨v13, h1, hf⟩ := bs hf
              refine am_endi hS (am_runV (As := [.int 168, .int 6]) X (hml.trans hl.1.symm) hS (cX12_sumOf_ok (l := l) (E := E) h1) mv_X12_322 hrc rfl ⟨Nat.le_trans (by decide) hR.1, Nat.le_trans (by decide) hR.2⟩ ⟨Nat.zero_le _, Nat.zero_le _⟩ rfl rfl (Nat.le_of_ble_eq_true rfl) dX12_told_167) (fun H locs hS => ?_)
              exact hj170 v13 m7 H locs ls hf hS (lv_sub hl [] rfl)
            · have hf := ifp hf q12
              refine lv_aload_n hx hb dX12_told_154 rfl (lv_at hl 0 rfl) ?_
              obtain ⟨v14, h1, hf⟩ := bs hf
              refine am_gi X hS fl_X12_175 rfl h1 dX12_told_155 ?_
              refine lv_goto (tgt := 170) hx hb dX12_told_158 (by decide) ?_
              exact hj170 v14 m7 H locs ls hf hS (lv_sub hl [] rfl)
          · have hf := ifp hf q11
            refine lv_aload_n hx hb dX12_told_141 rfl (lv_at hl 0 rfl) ?_
            obtain ⟨v15, h1, hf⟩ := bs hf
            refine am_gi X hS fl_X12_166 rfl h1 dX12_told_142 ?_
            refine lv_goto (tgt := 170) hx hb dX12_told_145 (by decide) ?_
            exact hj170 v15 m7 H locs ls hf hS (lv_sub hl [] rfl)
        · have hf := ifn hf q10
          refine lv_aload_n hx hb dX12_told_105 rfl (lv_at hl 0 rfl) ?_
          refine lv_iload_n hx hb dX12_told_106 rfl (lv_at hl 1 rfl) ?_
          refine lv_bipush (v := 6) hx hb dX12_told_107 (by decide) ?_
          refine lv_icmp_ne (tgt := 116) hx hb dX12_told_109 (by decide) (fun q16 => ?_) (fun q16 => ?_)
          · have hf := ifn hf q16
            refine lv_iload_n hx hb dX12_told_116 rfl (lv_at hl 1 rfl) ?_
            refine lv_bipush (v := 7) hx hb dX12_told_117 (by decide) ?_
            refine lv_icmp_ne (tgt := 127) hx hb dX12_told_119 (by decide) (fun q17 => ?_) (fun q17 => ?_)
            · have hf := ifn hf q17
              refine lv_bipush (v := 126) hx hb dX12_told_127 (by decide) ?_
              exact hj129 x0 126 m7 H locs ls hf hS (lv_sub hl [] rfl)
            · have hf := ifp hf q17
              refine lv_bipush (v := 42) hx hb dX12_told_122 (by decide) ?_
              refine lv_goto (tgt := 129) hx hb dX12_told_124 (by decide) ?_
              exact hj129 x0 42 m7 H locs ls hf hS (lv_sub hl [] rfl)
          · have hf := ifp hf q16
            refine lv_iconst (v := 0) hx hb dX12_told_112 (by decide) ?_
            refine lv_goto (tgt := 129) hx hb dX12_told_113 (by decide) ?_
            exact hj129 x0 0 m7 H locs ls hf hS (lv_sub hl [] rfl)
      · have hf := ifn hf q9
        refine lv_iload_n hx hb dX12_told_82 rfl (lv_at hl 1 rfl) ?_
        refine lv_iconst (v := 4) hx hb dX12_told_83 (by decide) ?_
        refine lv_icmp_ne (tgt := 94) hx hb dX12_told_84 (by decide) (fun q18 => ?_) (fun q18 => ?_)
        · have hf := ifn hf q18
          refine lv_aload_n hx hb dX12_told_94 rfl (lv_at hl 0 rfl) ?_
          obtain ⟨u0, h0, hf⟩ := bs hf
          obtain ⟨_, hrc⟩ := isO_n h0
          obtain ⟨v19, h1, hf⟩ := bs hf
          refine am_endi hS (am_runV (As := []) X (hml.trans hl.1.symm) hS (cX12_scattered_ok (l := l) (E := E) h1) mv_X12_374 hrc rfl ⟨Nat.le_trans (by decide) hR.1, Nat.le_trans (by decide) hR.2⟩ ⟨Nat.zero_le _, Nat.zero_le _⟩ rfl rfl (Nat.le_of_ble_eq_true rfl) dX12_told_95) (fun H locs hS => ?_)
          exact hj98 v19 m7 H locs ls hf hS (lv_sub hl [] rfl)
        · have hf := ifp hf q18
          refine lv_aload_n hx hb dX12_told_87 rfl (lv_at hl 0 rfl) ?_
          obtain ⟨u0, h0, hf⟩ := bs hf
          obtain ⟨_, hrc⟩ := isO_n h0
          obtain ⟨v20, h1, hf⟩ := bs hf
          refine am_endi hS (am_runV (As := []) X (hml.trans hl.1.symm) hS (cX12_whites_ok (l := l) (E := E) h1) mv_X12_371 hrc rfl ⟨Nat.le_trans (by decide) hR.1, Nat.le_trans (by decide) hR.2⟩ ⟨Nat.zero_le _, Nat.zero_le _⟩ rfl rfl (Nat.le_of_ble_eq_true rfl) dX12_told_88) (fun H locs hS => ?_)
          refine lv_goto (tgt := 98) hx hb dX12_told_91 (by decide) ?_
          exact hj98 v20 m7 H locs ls hf hS (lv_sub hl [] rfl)
    · have hf := ifn hf q8
      refine lv_iload_n hx hb dX12_told_32 rfl (lv_at hl 1 rfl) ?_
      refine lv_if_ne (tgt := 43) hx hb dX12_told_33 (by decide) (fun q21 => ?_) (fun q21 => ?_)
      · have hf := ifn hf q21
        refine lv_iload_n hx hb dX12_told_43 rfl (lv_at hl 1 rfl) ?_
        refine lv_iconst (v := 1) hx hb dX12_told_44 (by decide) ?_
        refine lv_icmp_ne (tgt := 55) hx hb dX12_told_45 (by decide) (fun q22 => ?_) (fun q22 => ?_)
        · have hf := ifn hf q22
          refine lv_iload_n hx hb dX12_told_55 rfl (lv_at hl 1 rfl) ?_
          refine lv_iconst (v := 2) hx hb dX12_told_56 (by decide) ?_
          refine lv_icmp_ne (tgt := 67) hx hb dX12_told_57 (by decide) (fun q23 => ?_) (fun q23 => ?_)
          · have hf := ifn hf q23
            refine lv_aload_n hx hb dX12_told_67 rfl (lv_at hl 0 rfl) ?_
            obtain ⟨a24, h1, hf⟩ := bs hf
            refine am_gr X hS fl_X12_62 rfl h1 dX12_told_68 ?_
            refine lv_sipush (v := 174) hx hb dX12_told_71 (by decide) ?_
            obtain ⟨v25, h1, hf⟩ := bs hf
            refine am_ald X hS h1 dX12_told_74 ?_
            exact hj75 v25 m7 H locs ls hf hS (lv_sub hl [] rfl)
          · have hf := ifp hf q23
            refine lv_aload_n hx hb dX12_told_60 rfl (lv_at hl 0 rfl) ?_
            obtain ⟨v26, h1, hf⟩ := bs hf
            refine am_gi X hS fl_X12_156 rfl h1 dX12_told_61 ?_
            refine lv_goto (tgt := 75) hx hb dX12_told_64 (by decide) ?_
            exact hj75 v26 m7 H locs ls hf hS (lv_sub hl [] rfl)
        · have hf := ifp hf q22
          refine lv_aload_n hx hb dX12_told_48 rfl (lv_at hl 0 rfl) ?_
          obtain ⟨v27, h1, hf⟩ := bs hf
          refine am_gi X hS fl_X12_153 rfl h1 dX12_told_49 ?_
          refine lv_goto (tgt := 75) hx hb dX12_told_52 (by decide) ?_
          exact hj75 v27 m7 H locs ls hf hS (lv_sub hl [] rfl)
      · have hf := ifp hf q21
        refine lv_aload_n hx hb dX12_told_36 rfl (lv_at hl 0 rfl) ?_
        obtain ⟨v28, h1, hf⟩ := bs hf
        refine am_gi X hS fl_X12_150 rfl h1 dX12_told_37 ?_
        refine lv_goto (tgt := 75) hx hb dX12_told_40 (by decide) ?_
        exact hj75 v28 m7 H locs ls hf hS (lv_sub hl [] rfl)
  · have hf := ifp hf q6
    refine lv_iconst (v := 0) hx hb dX12_told_21 (by decide) ?_
    cases hf
    exact hret _ _ _ _ rfl dX12_told_22 hS
set_option maxRecDepth 100000 in
theorem cX12_told_ok {l : Launch} {E : Ev} {x0 : Nat} {x1 : Int32} {mm : Mem} {r : Int32} {mm1 : Mem} (hf : fX12_told (eS E) x0 x1 mm = some (r, mm1)) : CtI l yX12_told cX12_told 2 (some .int) 3 67 E [.ref x0, .int x1] mm r mm1 := by
  refine Met.ofW (cc := cX12_told) (maxL := 2) (ret := (some .int)) (by decide) rfl ?_
  intro p e s m args below meth c s₁ B hml hv
  obtain ⟨rfl, X, hS, hr, hlocks⟩ := am_in B hv
  refine am_entry (Nat.le_of_ble_eq_true rfl) (fun ls hl => ?_)
  exact wX12_told X hml ⟨Nat.le_refl _, Nat.le_refl _⟩ hf (fun pc H locs ls hn hd hS => am_ri X hS hr hn hd hlocks) _ _ ls hS hl
set_option maxHeartbeats 4000000 in
set_option maxRecDepth 100000 in
theorem wX12_isFellow {p : Program} {l : Launch} {e : Env} {R : Room} {s : State} {m : MethodId} {args : Array Value} {below : List Frame} {meth : Method} {c : Code} {Q : State → Prop} {E : Ev} (X : Cx p s m args c cX12_isFellow RX12 E) (hml : c.maxLocals = 3) (hR : 1 ≤ R.frames ∧ 23 ≤ R.locals) {x0 : Nat} {x1 : Int32} {x2 : Int32} {mm : Mem} {r : Int32} {mm1 : Mem} (hf : fX12_isFellow (eS E) x0 x1 x2 mm = some (r, mm1)) (hret : ∀ (pc : Nat) (H : Heap) (locs : List Loc) (ls : Array Slot), narrow .boolean (.int r) = .int r → decode cX12_isFellow pc = .ok (.ireturn, 1) → wS E s mm1 H locs → W p l e R s m args below meth c H locs 0 0 Q (F0 m pc ls [.int r])) : ∀ (H : Heap) (locs : List Loc) (ls : Array Slot), wS E s mm H locs → lv_has ls 3 [(0, .ref x0), (1, .int x1), (2, .int x2)] → W p l e R s m args below meth c H locs 0 0 Q (F0 m 0 ls []) := by
  have hx := X.1
  have hb := X.2.1
  unfold fX12_isFellow at hf
  intro H locs ls hS hl
  refine lv_aload_n hx hb dX12_isFellow_0 rfl (lv_at hl 0 rfl) ?_
  refine lv_iload_n hx hb dX12_isFellow_1 rfl (lv_at hl 1 rfl) ?_
  refine lv_iconst (v := 0) hx hb dX12_isFellow_2 (by decide) ?_
  refine lv_aload_n hx hb dX12_isFellow_3 rfl (lv_at hl 0 rfl) ?_
  obtain ⟨v1, h1, hf⟩ := bs hf
  refine am_gi X hS fl_X12_150 rfl h1 dX12_isFellow_4 ?_
  refine lv_iconst (v := 1) hx hb dX12_isFellow_7 (by decide) ?_
  refine lv_isub hx hb dX12_isFellow_8 ?_
  obtain ⟨v2, h1, hf⟩ := bs hf
  refine am_endi hS (am_runS (As := [.int x1, .int 0, .int (v1 - 1)]) X (hml.trans hl.1.symm) hS (cX12_within_ok (l := l) (E := E) h1) ms_X12_368 ⟨Nat.le_trans (by decide) hR.1, Nat.le_trans (by decide) hR.2⟩ ⟨Nat.zero_le _, Nat.zero_le _⟩ rfl rfl (Nat.le_of_ble_eq_true rfl) dX12_isFellow_9) (fun H locs hS => ?_)
  refine lv_iload_n hx hb dX12_isFellow_12 rfl (lv_at hl 2 rfl) ?_
  refine lv_iconst (v := 0) hx hb dX12_isFellow_13 (by decide) ?_
  obtain ⟨u0, h0, hf⟩ := bs hf
  obtain ⟨_, hrc⟩ := isO_n h0
  obtain ⟨v3, m4, h1, hf⟩ := bs2 hf
  refine am_endi hS (am_runV (As := [.int v2, .int x2, .int 0]) X (hml.trans hl.1.symm) hS (cX12_may_ok (l := l) (E := E) h1) mv_X12_190 hrc rfl ⟨Nat.le_trans (by decide) hR.1, Nat.le_trans (by decide) hR.2⟩ ⟨Nat.zero_le _, Nat.zero_le _⟩ rfl rfl (Nat.le_of_ble_eq_true rfl) dX12_isFellow_14) (fun H locs hS => ?_)
  obtain ⟨v5, h1, hf⟩ := bs hf
  obtain ⟨rfl, h2⟩ := ckZ_n h1
  cases hf
  exact hret _ _ _ _ h2 dX12_isFellow_17 hS
set_option maxRecDepth 100000 in
theorem cX12_isFellow_ok {l : Launch} {E : Ev} {x0 : Nat} {x1 : Int32} {x2 : Int32} {mm : Mem} {r : Int32} {mm1 : Mem} (hf : fX12_isFellow (eS E) x0 x1 x2 mm = some (r, mm1)) : CtI l yX12_isFellow cX12_isFellow 3 (some .boolean) 1 23 E [.ref x0, .int x1, .int x2] mm r mm1 := by
  refine Met.ofW (cc := cX12_isFellow) (maxL := 3) (ret := (some .boolean)) (by decide) rfl ?_
  intro p e s m args below meth c s₁ B hml hv
  obtain ⟨rfl, X, hS, hr, hlocks⟩ := am_in B hv
  refine am_entry (Nat.le_of_ble_eq_true rfl) (fun ls hl => ?_)
  exact wX12_isFellow X hml ⟨Nat.le_refl _, Nat.le_refl _⟩ hf (fun pc H locs ls hn hd hS => am_ri X hS hr hn hd hlocks) _ _ ls hS hl
set_option maxHeartbeats 4000000 in
set_option maxRecDepth 100000 in
theorem wX12_isGlass {p : Program} {l : Launch} {e : Env} {R : Room} {s : State} {m : MethodId} {args : Array Value} {below : List Frame} {meth : Method} {c : Code} {Q : State → Prop} {E : Ev} (X : Cx p s m args c cX12_isGlass RX12 E) (hml : c.maxLocals = 3) (hR : 1 ≤ R.frames ∧ 23 ≤ R.locals) {x0 : Nat} {x1 : Int32} {x2 : Int32} {mm : Mem} {r : Int32} {mm1 : Mem} (hf : fX12_isGlass (eS E) x0 x1 x2 mm = some (r, mm1)) (hret : ∀ (pc : Nat) (H : Heap) (locs : List Loc) (ls : Array Slot), narrow .boolean (.int r) = .int r → decode cX12_isGlass pc = .ok (.ireturn, 1) → wS E s mm1 H locs → W p l e R s m args below meth c H locs 0 0 Q (F0 m pc ls [.int r])) : ∀ (H : Heap) (locs : List Loc) (ls : Array Slot), wS E s mm H locs → lv_has ls 3 [(0, .ref x0), (1, .int x1), (2, .int x2)] → W p l e R s m args below meth c H locs 0 0 Q (F0 m 0 ls []) := by
  have hx := X.1
  have hb := X.2.1
  unfold fX12_isGlass at hf
  intro H locs ls hS hl
  refine lv_aload_n hx hb dX12_isGlass_0 rfl (lv_at hl 0 rfl) ?_
  refine lv_iload_n hx hb dX12_isGlass_1 rfl (lv_at hl 1 rfl) ?_
  refine lv_iconst (v := 0) hx hb dX12_isGlass_2 (by decide) ?_
  refine lv_aload_n hx hb dX12_isGlass_3 rfl (lv_at hl 0 rfl) ?_
  obtain ⟨v1, h1, hf⟩ := bs hf
  refine am_gi X hS fl_X12_153 rfl h1 dX12_isGlass_4 ?_
  refine lv_iconst (v := 1) hx hb dX12_isGlass_7 (by decide) ?_
  refine lv_isub hx hb dX12_isGlass_8 ?_
  obtain ⟨v2, h1, hf⟩ := bs hf
  refine am_endi hS (am_runS (As := [.int x1, .int 0, .int (v1 - 1)]) X (hml.trans hl.1.symm) hS (cX12_within_ok (l := l) (E := E) h1) ms_X12_368 ⟨Nat.le_trans (by decide) hR.1, Nat.le_trans (by decide) hR.2⟩ ⟨Nat.zero_le _, Nat.zero_le _⟩ rfl rfl (Nat.le_of_ble_eq_true rfl) dX12_isGlass_9) (fun H locs hS => ?_)
  refine lv_iload_n hx hb dX12_isGlass_12 rfl (lv_at hl 2 rfl) ?_
  refine lv_iconst (v := 0) hx hb dX12_isGlass_13 (by decide) ?_
  obtain ⟨u0, h0, hf⟩ := bs hf
  obtain ⟨_, hrc⟩ := isO_n h0
  obtain ⟨v3, m4, h1, hf⟩ := bs2 hf
  refine am_endi hS (am_runV (As := [.int v2, .int x2, .int 0]) X (hml.trans hl.1.symm) hS (cX12_may_ok (l := l) (E := E) h1) mv_X12_190 hrc rfl ⟨Nat.le_trans (by decide) hR.1, Nat.le_trans (by decide) hR.2⟩ ⟨Nat.zero_le _, Nat.zero_le _⟩ rfl rfl (Nat.le_of_ble_eq_true rfl) dX12_isGlass_14) (fun H locs hS => ?_)
  obtain ⟨v5, h1, hf⟩ := bs hf
  obtain ⟨rfl, h2⟩ := ckZ_n h1
  cases hf
  exact hret _ _ _ _ h2 dX12_isGlass_17 hS
set_option maxRecDepth 100000 in
theorem cX12_isGlass_ok {l : Launch} {E : Ev} {x0 : Nat} {x1 : Int32} {x2 : Int32} {mm : Mem} {r : Int32} {mm1 : Mem} (hf : fX12_isGlass (eS E) x0 x1 x2 mm = some (r, mm1)) : CtI l yX12_isGlass cX12_isGlass 3 (some .boolean) 1 23 E [.ref x0, .int x1, .int x2] mm r mm1 := by
  refine Met.ofW (cc := cX12_isGlass) (maxL := 3) (ret := (some .boolean)) (by decide) rfl ?_
  intro p e s m args below meth c s₁ B hml hv
  obtain ⟨rfl, X, hS, hr, hlocks⟩ := am_in B hv
  refine am_entry (Nat.le_of_ble_eq_true rfl) (fun ls hl => ?_)
  exact wX12_isGlass X hml ⟨Nat.le_refl _, Nat.le_refl _⟩ hf (fun pc H locs ls hn hd hS => am_ri X hS hr hn hd hlocks) _ _ ls hS hl
set_option maxHeartbeats 4000000 in
set_option maxRecDepth 100000 in
theorem wX12_darkOf {p : Program} {l : Launch} {e : Env} {R : Room} {s : State} {m : MethodId} {args : Array Value} {below : List Frame} {meth : Method} {c : Code} {Q : State → Prop} {E : Ev} (X : Cx p s m args c cX12_darkOf RX12 E) (hml : c.maxLocals = 4) (hR : 1 ≤ R.frames ∧ 22 ≤ R.locals) {x0 : Nat} {x1 : Int32} {mm : Mem} {r : Int32} (hf : fX12_darkOf (eS E) x0 x1 mm = some r) (hret : ∀ (pc : Nat) (H : Heap) (locs : List Loc) (ls : Array Slot), narrow .int (.int r) = .int r → decode cX12_darkOf pc = .ok (.ireturn, 1) → wS E s mm H locs → W p l e R s m args below meth c H locs 0 0 Q (F0 m pc ls [.int r])) : ∀ (H : Heap) (locs : List Loc) (ls : Array Slot), wS E s mm H locs → lv_has ls 4 [(0, .ref x0), (1, .int x1)] → W p l e R s m args below meth c H locs 0 0 Q (F0 m 0 ls []) := by
  have hx := X.1
  have hb := X.2.1
  unfold fX12_darkOf at hf
  have hj55 : ∀ (x2 : Int32) (H : Heap) (locs : List Loc) (ls : Array Slot), fX12_darkOf_j55 (eS E) x2 mm = some r → wS E s mm H locs → lv_has ls 4 [(2, .int x2)] → W p l e R s m args below meth c H locs 0 0 Q (F0 m 55 ls []) := by
    intro x2 H locs ls hf hS hl
    unfold fX12_darkOf_j55 at hf
    refine lv_iload_n hx hb dX12_darkOf_55 rfl (lv_at hl 0 rfl) ?_
    cases hf
    exact hret _ _ _ _ rfl dX12_darkOf_56 hS
  intro H locs ls hS hl
  refine lv_iconst (v := 0) hx hb dX12_darkOf_0 (by decide) ?_
  refine lv_topi (fun x2_1 e1 => ?_)
  have hf := lt1_n e1 hf
  refine lv_istore_n (lv' := [(2, .int x2_1), (0, .ref x0), (1, .int x1)]) hx hb dX12_darkOf_1 rfl hl (by decide) rfl (fun ls hl => ?_)
  refine lv_iconst (v := 0) hx hb dX12_darkOf_2 (by decide) ?_
  refine lv_topi (fun x3_2 e1 => ?_)
  have hf := lt1_n e1 hf
  refine lv_istore_n (lv' := [(3, .int x3_2), (2, .int x2_1), (0, .ref x0), (1, .int x1)]) hx hb dX12_darkOf_3 rfl hl (by decide) rfl (fun ls hl => ?_)
  obtain ⟨ex4, hl4, hk4⟩ := bs hf
  refine loop_W (P := fun st => ∀ (H : Heap) (locs : List Loc) (ls : Array Slot), wS E s mm H locs → lv_has ls 4 [(0, .ref x0), (1, .int x1), (2, .int st.1), (3, .int st.2)] → W p l e R s m args below meth c H locs 0 0 Q (F0 m 4 ls [])) (ex := ex4) ?_ FU _ hl4 H locs ls hS (lv_sub hl [2, 3, 1, 0] rfl)
  intro st y4 hf hyL4 hyR4 H locs ls hS hl
  obtain ⟨x2, x3⟩ := st
  have hf : fX12_darkOf_b4 (eS E) x0 x1 x2 x3 mm = some y4 := hf
  have hS : wS E s mm H locs := hS
  have hl : lv_has ls 4 [(0, .ref x0), (1, .int x1), (2, .int x2), (3, .int x3)] := hl
  unfold fX12_darkOf_b4 at hf
  have hj47 : ∀ (x3 : Int32) (s0 : Int32) (s1 : Int32) (H : Heap) (locs : List Loc) (ls : Array Slot), fX12_darkOf_j47 (eS E) x0 x1 x3 s0 s1 mm = some y4 → wS E s mm H locs → lv_has ls 4 [(0, .ref x0), (1, .int x1), (3, .int x3)] → W p l e R s m args below meth c H locs 0 0 Q (F0 m 47 ls [.int s1, .int s0]) := by
    intro x3 s0 s1 H locs ls hf hS hl
    unfold fX12_darkOf_j47 at hf
    refine lv_ior hx hb dX12_darkOf_47 ?_
    refine lv_topi (fun x2_3 e1 => ?_)
    have hf := lt1_n e1 hf
    refine lv_istore_n (lv' := [(2, .int x2_3), (0, .ref x0), (1, .int x1), (3, .int x3)]) hx hb dX12_darkOf_48 rfl hl (by decide) rfl (fun ls hl => ?_)
    obtain ⟨x3_4, e1⟩ : ∃ z : Int32, z = x3 + 1 := ⟨_, rfl⟩
    have hf := lt1_n e1 hf
    refine lv_iinc (v := x3_4) (lv' := [(3, .int x3_4), (2, .int x2_3), (0, .ref x0), (1, .int x1)]) hx hb dX12_darkOf_49 hl (k := 3) rfl (by rw [e1]; rfl) (by decide) rfl (fun ls hl => ?_)
    refine lv_goto (tgt := 4) hx hb dX12_darkOf_52 (by decide) ?_
    exact hyL4 _ (Option.some.inj hf).symm H locs ls hS (lv_sub hl [2, 3, 1, 0] rfl)
  have hj46 : ∀ (x3 : Int32) (s0 : Int32) (H : Heap) (locs : List Loc) (ls : Array Slot), fX12_darkOf_j46 (eS E) x0 x1 x3 s0 mm = some y4 → wS E s mm H locs → lv_has ls 4 [(0, .ref x0), (1, .int x1), (3, .int x3)] → W p l e R s m args below meth c H locs 0 0 Q (F0 m 46 ls [.int s0]) := by
    intro x3 s0 H locs ls hf hS hl
    unfold fX12_darkOf_j46 at hf
    refine lv_iconst (v := 0) hx hb dX12_darkOf_46 (by decide) ?_
    exact hj47 x3 s0 0 H locs ls hf hS hl
  refine lv_iload_n hx hb dX12_darkOf_4 rfl (lv_at hl 3 rfl) ?_
  refine lv_bipush (v := 7) hx hb dX12_darkOf_5 (by decide) ?_
  refine lv_icmp_ge (tgt := 55) hx hb dX12_darkOf_7 (by decide) (fun q5 => ?_) (fun q5 => ?_)
  · have hf := ifp hf q5
    obtain rfl : x2 = ex4 := hyR4 _ (Option.some.inj hf).symm
    exact hj55 x2 H locs ls hk4 hS (lv_sub hl [2] rfl)
  · have hf := ifn hf q5
    refine lv_iload_n hx hb dX12_darkOf_10 rfl (lv_at hl 2 rfl) ?_
    refine lv_aload_n hx hb dX12_darkOf_11 rfl (lv_at hl 0 rfl) ?_
    obtain ⟨a6, h1, hf⟩ := bs hf
    refine am_gr X hS fl_X12_62 rfl h1 dX12_darkOf_12 ?_
    refine lv_iconst (v := 0) hx hb dX12_darkOf_15 (by decide) ?_
    refine lv_iload_n hx hb dX12_darkOf_16 rfl (lv_at hl 1 rfl) ?_
    refine lv_iload_n hx hb dX12_darkOf_17 rfl (lv_at hl 3 rfl) ?_
    obtain ⟨v7, h1, hf⟩ := bs hf
    refine am_endi hS (am_runS (As := [.int 0, .int x1, .int x3]) X (hml.trans hl.1.symm) hS (cX12_in_ok (l := l) (E := E) h1) ms_X12_319 ⟨Nat.le_trans (by decide) hR.1, Nat.le_trans (by decide) hR.2⟩ ⟨Nat.zero_le _, Nat.zero_le _⟩ rfl rfl (Nat.le_of_ble_eq_true rfl) dX12_darkOf_18) (fun H locs hS => ?_)
    obtain ⟨v8, h1, hf⟩ := bs hf
    refine am_ald X hS h1 dX12_darkOf_21 ?_
    refine lv_if_ne (tgt := 46) hx hb dX12_darkOf_22 (by decide) (fun q9 => ?_) (fun q9 => ?_)
    · have hf := ifn hf q9
      exact hj46 x3 x2 H locs ls hf hS (lv_sub hl [0, 1, 3] rfl)
    · have hf := ifp hf q9
      refine lv_aload_n hx hb dX12_darkOf_25 rfl (lv_at hl 0 rfl) ?_
      obtain ⟨a10, h1, hf⟩ := bs hf
      refine am_gr X hS fl_X12_62 rfl h1 dX12_darkOf_26 ?_
      refine lv_bipush (v := 42) hx hb dX12_darkOf_29 (by decide) ?_
      refine lv_iload_n hx hb dX12_darkOf_31 rfl (lv_at hl 1 rfl) ?_
      refine lv_iload_n hx hb dX12_darkOf_32 rfl (lv_at hl 3 rfl) ?_
      obtain ⟨v11, h1, hf⟩ := bs hf
      refine am_endi hS (am_runS (As := [.int 42, .int x1, .int x3]) X (hml.trans hl.1.symm) hS (cX12_in_ok (l := l) (E := E) h1) ms_X12_319 ⟨Nat.le_trans (by decide) hR.1, Nat.le_trans (by decide) hR.2⟩ ⟨Nat.zero_le _, Nat.zero_le _⟩ rfl rfl (Nat.le_of_ble_eq_true rfl) dX12_darkOf_33) (fun H locs hS => ?_)
      obtain ⟨v12, h1, hf⟩ := bs hf
      refine am_ald X hS h1 dX12_darkOf_36 ?_
      refine lv_if_ne (tgt := 46) hx hb dX12_darkOf_37 (by decide) (fun q13 => ?_) (fun q13 => ?_)
      · have hf := ifn hf q13
        exact hj46 x3 x2 H locs ls hf hS (lv_sub hl [0, 1, 3] rfl)
      · have hf := ifp hf q13
        refine lv_iconst (v := 1) hx hb dX12_darkOf_40 (by decide) ?_
        refine lv_iload_n hx hb dX12_darkOf_41 rfl (lv_at hl 3 rfl) ?_
        refine lv_ishl hx hb dX12_darkOf_42 ?_
        refine lv_goto (tgt := 47) hx hb dX12_darkOf_43 (by decide) ?_
        exact hj47 x3 x2 (1 <<< (x3 &&& 31)) H locs ls hf hS (lv_sub hl [0, 1, 3] rfl)
set_option maxRecDepth 100000 in
theorem cX12_darkOf_ok {l : Launch} {E : Ev} {x0 : Nat} {x1 : Int32} {mm : Mem} {r : Int32} (hf : fX12_darkOf (eS E) x0 x1 mm = some r) : CtI l yX12_darkOf cX12_darkOf 4 (some .int) 1 22 E [.ref x0, .int x1] mm r mm := by
  refine Met.ofW (cc := cX12_darkOf) (maxL := 4) (ret := (some .int)) (by decide) rfl ?_
  intro p e s m args below meth c s₁ B hml hv
  obtain ⟨rfl, X, hS, hr, hlocks⟩ := am_in B hv
  refine am_entry (Nat.le_of_ble_eq_true rfl) (fun ls hl => ?_)
  exact wX12_darkOf X hml ⟨Nat.le_refl _, Nat.le_refl _⟩ hf (fun pc H locs ls hn hd hS => am_ri X hS hr hn hd hlocks) _ _ ls hS hl
set_option maxHeartbeats 4000000 in
set_option maxRecDepth 100000 in
theorem wX12_spotOf {p : Program} {l : Launch} {e : Env} {R : Room} {s : State} {m : MethodId} {args : Array Value} {below : List Frame} {meth : Method} {c : Code} {Q : State → Prop} {E : Ev} (X : Cx p s m args c cX12_spotOf RX12 E) (hml : c.maxLocals = 6) (hR : 1 ≤ R.frames ∧ 22 ≤ R.locals) {x0 : Nat} {x1 : Int32} {x2 : Int32} {mm : Mem} {r : Int32} (hf : fX12_spotOf (eS E) x0 x1 x2 mm = some r) (hret : ∀ (pc : Nat) (H : Heap) (locs : List Loc) (ls : Array Slot), narrow .int (.int r) = .int r → decode cX12_spotOf pc = .ok (.ireturn, 1) → wS E s mm H locs → W p l e R s m args below meth c H locs 0 0 Q (F0 m pc ls [.int r])) : ∀ (H : Heap) (locs : List Loc) (ls : Array Slot), wS E s mm H locs → lv_has ls 6 [(0, .ref x0), (1, .int x1), (2, .int x2)] → W p l e R s m args below meth c H locs 0 0 Q (F0 m 0 ls []) := by
  have hx := X.1
  have hb := X.2.1
  unfold fX12_spotOf at hf
  have hj83 : ∀ (x3 : Int32) (H : Heap) (locs : List Loc) (ls : Array Slot), fX12_spotOf_j83 (eS E) x3 mm = some r → wS E s mm H locs → lv_has ls 6 [(3, .int x3)] → W p l e R s m args below meth c H locs 0 0 Q (F0 m 83 ls []) := by
    intro x3 H locs ls hf hS hl
    unfold fX12_spotOf_j83 at hf
    refine lv_iload_n hx hb dX12_spotOf_83 rfl (lv_at hl 0 rfl) ?_
    cases hf
    exact hret _ _ _ _ rfl dX12_spotOf_84 hS
  intro H locs ls hS hl
  refine lv_iconst (v := (-1)) hx hb dX12_spotOf_0 (by decide) ?_
  refine lv_topi (fun x3_1 e1 => ?_)
  have hf := lt1_n e1 hf
  refine lv_istore_n (lv' := [(3, .int x3_1), (0, .ref x0), (1, .int x1), (2, .int x2)]) hx hb dX12_spotOf_1 rfl hl (by decide) rfl (fun ls hl => ?_)
  refine lv_iconst (v := 0) hx hb dX12_spotOf_2 (by decide) ?_
  refine lv_topi (fun x4_2 e1 => ?_)
  have hf := lt1_n e1 hf
  refine lv_istore (lv' := [(4, .int x4_2), (3, .int x3_1), (0, .ref x0), (1, .int x1), (2, .int x2)]) hx hb dX12_spotOf_3 hl (by decide) rfl (fun ls hl => ?_)
  obtain ⟨ex5, hl5, hk5⟩ := bs hf
  refine loop_W (P := fun st => ∀ (H : Heap) (locs : List Loc) (ls : Array Slot), wS E s mm H locs → lv_has ls 6 [(0, .ref x0), (1, .int x1), (2, .int x2), (3, .int st.1), (4, .int st.2)] → W p l e R s m args below meth c H locs 0 0 Q (F0 m 5 ls [])) (ex := ex5) ?_ FU _ hl5 H locs ls hS (lv_sub hl [2, 3, 4, 1, 0] rfl)
  intro st y5 hf hyL5 hyR5 H locs ls hS hl
  obtain ⟨x3, x4⟩ := st
  have hf : fX12_spotOf_b5 (eS E) x0 x1 x2 x3 x4 mm = some y5 := hf
  have hS : wS E s mm H locs := hS
  have hl : lv_has ls 6 [(0, .ref x0), (1, .int x1), (2, .int x2), (3, .int x3), (4, .int x4)] := hl
  unfold fX12_spotOf_b5 at hf
  have hj77 : ∀ (x3 : Int32) (x4 : Int32) (H : Heap) (locs : List Loc) (ls : Array Slot), fX12_spotOf_j77 (eS E) x0 x1 x2 x3 x4 mm = some y5 → wS E s mm H locs → lv_has ls 6 [(0, .ref x0), (1, .int x1), (2, .int x2), (3, .int x3), (4, .int x4)] → W p l e R s m args below meth c H locs 0 0 Q (F0 m 77 ls []) := by
    intro x3 x4 H locs ls hf hS hl
    unfold fX12_spotOf_j77 at hf
    obtain ⟨x4_3, e1⟩ : ∃ z : Int32, z = x4 + 1 := ⟨_, rfl⟩
    have hf := lt1_n e1 hf
    refine lv_iinc (v := x4_3) (lv' := [(4, .int x4_3), (0, .ref x0), (1, .int x1), (2, .int x2), (3, .int x3)]) hx hb dX12_spotOf_77 hl (k := 4) rfl (by rw [e1]; rfl) (by decide) rfl (fun ls hl => ?_)
    refine lv_goto (tgt := 5) hx hb dX12_spotOf_80 (by decide) ?_
    exact hyL5 _ (Option.some.inj hf).symm H locs ls hS (lv_sub hl [1, 2, 3, 4, 0] rfl)
  have hj76 : ∀ (x4 : Int32) (s0 : Int32) (H : Heap) (locs : List Loc) (ls : Array Slot), fX12_spotOf_j76 (eS E) x0 x1 x2 x4 s0 mm = some y5 → wS E s mm H locs → lv_has ls 6 [(0, .ref x0), (1, .int x1), (2, .int x2), (4, .int x4)] → W p l e R s m args below meth c H locs 0 0 Q (F0 m 76 ls [.int s0]) := by
    intro x4 s0 H locs ls hf hS hl
    unfold fX12_spotOf_j76 at hf
    refine lv_topi (fun x3_4 e1 => ?_)
    have hf := lt1_n e1 hf
    refine lv_istore_n (lv' := [(3, .int x3_4), (0, .ref x0), (1, .int x1), (2, .int x2), (4, .int x4)]) hx hb dX12_spotOf_76 rfl hl (by decide) rfl (fun ls hl => ?_)
    exact hj77 x3_4 x4 H locs ls hf hS (lv_sub hl [1, 2, 3, 0, 4] rfl)
  have hj70 : ∀ (x4 : Int32) (x5 : Int32) (H : Heap) (locs : List Loc) (ls : Array Slot), fX12_spotOf_j70 (eS E) x0 x1 x2 x4 x5 mm = some y5 → wS E s mm H locs → lv_has ls 6 [(0, .ref x0), (1, .int x1), (2, .int x2), (4, .int x4), (5, .int x5)] → W p l e R s m args below meth c H locs 0 0 Q (F0 m 70 ls []) := by
    intro x4 x5 H locs ls hf hS hl
    unfold fX12_spotOf_j70 at hf
    refine lv_iload hx hb dX12_spotOf_70 (lv_at hl 4 rfl) ?_
    refine lv_goto (tgt := 76) hx hb dX12_spotOf_72 (by decide) ?_
    exact hj76 x4 x5 H locs ls hf hS (lv_sub hl [0, 1, 2, 3] rfl)
  have hj75 : ∀ (x3 : Int32) (x4 : Int32) (H : Heap) (locs : List Loc) (ls : Array Slot), fX12_spotOf_j75 (eS E) x0 x1 x2 x3 x4 mm = some y5 → wS E s mm H locs → lv_has ls 6 [(0, .ref x0), (1, .int x1), (2, .int x2), (3, .int x3), (4, .int x4)] → W p l e R s m args below meth c H locs 0 0 Q (F0 m 75 ls []) := by
    intro x3 x4 H locs ls hf hS hl
    unfold fX12_spotOf_j75 at hf
    refine lv_iload_n hx hb dX12_spotOf_75 rfl (lv_at hl 3 rfl) ?_
    exact hj76 x4 x3 H locs ls hf hS (lv_sub hl [0, 1, 2, 4] rfl)
  refine lv_iload hx hb dX12_spotOf_5 (lv_at hl 4 rfl) ?_
  refine lv_bipush (v := 7) hx hb dX12_spotOf_7 (by decide) ?_
  refine lv_icmp_ge (tgt := 83) hx hb dX12_spotOf_9 (by decide) (fun q5 => ?_) (fun q5 => ?_)
  · have hf := ifp hf q5
    obtain rfl : x3 = ex5 := hyR5 _ (Option.some.inj hf).symm
    exact hj83 x3 H locs ls hk5 hS (lv_sub hl [3] rfl)
  · have hf := ifn hf q5
    refine lv_aload_n hx hb dX12_spotOf_12 rfl (lv_at hl 0 rfl) ?_
    obtain ⟨a6, h1, hf⟩ := bs hf
    refine am_gr X hS fl_X12_62 rfl h1 dX12_spotOf_13 ?_
    refine lv_bipush (v := 42) hx hb dX12_spotOf_16 (by decide) ?_
    refine lv_iload_n hx hb dX12_spotOf_18 rfl (lv_at hl 1 rfl) ?_
    refine lv_iload hx hb dX12_spotOf_19 (lv_at hl 4 rfl) ?_
    obtain ⟨v7, h1, hf⟩ := bs hf
    refine am_endi hS (am_runS (As := [.int 42, .int x1, .int x4]) X (hml.trans hl.1.symm) hS (cX12_in_ok (l := l) (E := E) h1) ms_X12_319 ⟨Nat.le_trans (by decide) hR.1, Nat.le_trans (by decide) hR.2⟩ ⟨Nat.zero_le _, Nat.zero_le _⟩ rfl rfl (Nat.le_of_ble_eq_true rfl) dX12_spotOf_21) (fun H locs hS => ?_)
    obtain ⟨v8, h1, hf⟩ := bs hf
    refine am_ald X hS h1 dX12_spotOf_24 ?_
    refine lv_if_ne (tgt := 31) hx hb dX12_spotOf_25 (by decide) (fun q9 => ?_) (fun q9 => ?_)
    · have hf := ifn hf q9
      refine lv_aload_n hx hb dX12_spotOf_31 rfl (lv_at hl 0 rfl) ?_
      obtain ⟨a10, h1, hf⟩ := bs hf
      refine am_gr X hS fl_X12_62 rfl h1 dX12_spotOf_32 ?_
      refine lv_bipush (v := 84) hx hb dX12_spotOf_35 (by decide) ?_
      refine lv_iload_n hx hb dX12_spotOf_37 rfl (lv_at hl 1 rfl) ?_
      refine lv_iload hx hb dX12_spotOf_38 (lv_at hl 4 rfl) ?_
      obtain ⟨v11, h1, hf⟩ := bs hf
      refine am_endi hS (am_runS (As := [.int 84, .int x1, .int x4]) X (hml.trans hl.1.symm) hS (cX12_in_ok (l := l) (E := E) h1) ms_X12_319 ⟨Nat.le_trans (by decide) hR.1, Nat.le_trans (by decide) hR.2⟩ ⟨Nat.zero_le _, Nat.zero_le _⟩ rfl rfl (Nat.le_of_ble_eq_true rfl) dX12_spotOf_40) (fun H locs hS => ?_)
      obtain ⟨v12, h1, hf⟩ := bs hf
      refine am_ald X hS h1 dX12_spotOf_43 ?_
      refine lv_topi (fun x5_13 e1 => ?_)
      have hf := lt1_n e1 hf
      refine lv_istore (lv' := [(5, .int x5_13), (0, .ref x0), (1, .int x1), (2, .int x2), (3, .int x3), (4, .int x4)]) hx hb dX12_spotOf_44 hl (by decide) rfl (fun ls hl => ?_)
      refine lv_iload_n hx hb dX12_spotOf_46 rfl (lv_at hl 4 rfl) ?_
      refine lv_iconst (v := (-1)) hx hb dX12_spotOf_47 (by decide) ?_
      refine lv_icmp_eq (tgt := 70) hx hb dX12_spotOf_48 (by decide) (fun q14 => ?_) (fun q14 => ?_)
      · have hf := ifp hf q14
        exact hj70 x4 x5_13 H locs ls hf hS (lv_sub hl [1, 2, 3, 5, 0] rfl)
      · have hf := ifn hf q14
        refine lv_iload_n hx hb dX12_spotOf_51 rfl (lv_at hl 3 rfl) ?_
        refine lv_if_ne (tgt := 64) hx hb dX12_spotOf_52 (by decide) (fun q15 => ?_) (fun q15 => ?_)
        · have hf := ifn hf q15
          refine lv_iload hx hb dX12_spotOf_64 (lv_at hl 0 rfl) ?_
          refine lv_iload_n hx hb dX12_spotOf_66 rfl (lv_at hl 4 rfl) ?_
          refine lv_icmp_le (tgt := 75) hx hb dX12_spotOf_67 (by decide) (fun q16 => ?_) (fun q16 => ?_)
          · have hf := ifp hf q16
            exact hj75 x3 x4 H locs ls hf hS (lv_sub hl [1, 2, 3, 4, 5] rfl)
          · have hf := ifn hf q16
            exact hj70 x4 x5_13 H locs ls hf hS (lv_sub hl [1, 2, 3, 5, 0] rfl)
        · have hf := ifp hf q15
          refine lv_iload hx hb dX12_spotOf_55 (lv_at hl 0 rfl) ?_
          refine lv_iload_n hx hb dX12_spotOf_57 rfl (lv_at hl 4 rfl) ?_
          refine lv_icmp_ge (tgt := 75) hx hb dX12_spotOf_58 (by decide) (fun q17 => ?_) (fun q17 => ?_)
          · have hf := ifp hf q17
            exact hj75 x3 x4 H locs ls hf hS (lv_sub hl [1, 2, 3, 4, 5] rfl)
          · have hf := ifn hf q17
            refine lv_goto (tgt := 70) hx hb dX12_spotOf_61 (by decide) ?_
            exact hj70 x4 x5_13 H locs ls hf hS (lv_sub hl [1, 2, 3, 5, 0] rfl)
    · have hf := ifp hf q9
      refine lv_goto (tgt := 77) hx hb dX12_spotOf_28 (by decide) ?_
      exact hj77 x3 x4 H locs ls hf hS hl
set_option maxRecDepth 100000 in
theorem cX12_spotOf_ok {l : Launch} {E : Ev} {x0 : Nat} {x1 : Int32} {x2 : Int32} {mm : Mem} {r : Int32} (hf : fX12_spotOf (eS E) x0 x1 x2 mm = some r) : CtI l yX12_spotOf cX12_spotOf 6 (some .int) 1 22 E [.ref x0, .int x1, .int x2] mm r mm := by
  refine Met.ofW (cc := cX12_spotOf) (maxL := 6) (ret := (some .int)) (by decide) rfl ?_
  intro p e s m args below meth c s₁ B hml hv
  obtain ⟨rfl, X, hS, hr, hlocks⟩ := am_in B hv
  refine am_entry (Nat.le_of_ble_eq_true rfl) (fun ls hl => ?_)
  exact wX12_spotOf X hml ⟨Nat.le_refl _, Nat.le_refl _⟩ hf (fun pc H locs ls hn hd hS => am_ri X hS hr hn hd hlocks) _ _ ls hS hl
set_option maxHeartbeats 4000000 in
set_option maxRecDepth 100000 in
theorem wX12_fellow {p : Program} {l : Launch} {e : Env} {R : Room} {s : State} {m : MethodId} {args : Array Value} {below : List Frame} {meth : Method} {c : Code} {Q : State → Prop} {E : Ev} (X : Cx p s m args c cX12_fellow RX12 E) (hml : c.maxLocals = 3) (hR : 2 ≤ R.frames ∧ 47 ≤ R.locals) {x0 : Nat} {x1 : Int32} {x2 : Int32} {mm : Mem} {r : Int32} {mm1 : Mem} (hf : fX12_fellow (eS E) x0 x1 x2 mm = some (r, mm1)) (hret : ∀ (pc : Nat) (H : Heap) (locs : List Loc) (ls : Array Slot), narrow .int (.int r) = .int r → decode cX12_fellow pc = .ok (.ireturn, 1) → wS E s mm1 H locs → W p l e R s m args below meth c H locs 0 0 Q (F0 m pc ls [.int r])) : ∀ (H : Heap) (locs : List Loc) (ls : Array Slot), wS E s mm H locs → lv_has ls 3 [(0, .ref x0), (1, .int x1), (2, .int x2)] → W p l e R s m args below meth c H locs 0 0 Q (F0 m 0 ls []) := by
  have hx := X.1
  have hb := X.2.1
  unfold fX12_fellow at hf
  have hj30 : ∀ (mm : Mem) (H : Heap) (locs : List Loc) (ls : Array Slot), fX12_fellow_j30 (eS E) mm = some (r, mm1) → wS E s mm H locs → lv_has ls 3 [] → W p l e R s m args below meth c H locs 0 0 Q (F0 m 30 ls []) := by
    intro mm H locs ls hf hS hl
    unfold fX12_fellow_j30 at hf
    refine lv_iconst (v := 0) hx hb dX12_fellow_30 (by decide) ?_
    cases hf
    exact hret _ _ _ _ rfl dX12_fellow_31 hS
  have hj127 : ∀ (s0 : Int32) (mm : Mem) (H : Heap) (locs : List Loc) (ls : Array Slot), fX12_fellow_j127 (eS E) s0 mm = some (r, mm1) → wS E s mm H locs → lv_has ls 3 [] → W p l e R s m args below meth c H locs 0 0 Q (F0 m 127 ls [.int s0]) := by
    intro s0 mm H locs ls hf hS hl
    unfold fX12_fellow_j127 at hf
    cases hf
    exact hret _ _ _ _ rfl dX12_fellow_127 hS
  have hj76 : ∀ (s0 : Int32) (mm : Mem) (H : Heap) (locs : List Loc) (ls : Array Slot), fX12_fellow_j76 (eS E) s0 mm = some (r, mm1) → wS E s mm H locs → lv_has ls 3 [] → W p l e R s m args below meth c H locs 0 0 Q (F0 m 76 ls [.int s0]) := by
    intro s0 mm H locs ls hf hS hl
    unfold fX12_fellow_j76 at hf
    cases hf
    exact hret _ _ _ _ rfl dX12_fellow_76 hS
  have hj66 : ∀ (x1 : Int32) (s0 : Nat) (s1 : Int32) (mm : Mem) (H : Heap) (locs : List Loc) (ls : Array Slot), fX12_fellow_j66 (eS E) x1 s0 s1 mm = some (r, mm1) → wS E s mm H locs → lv_has ls 3 [(1, .int x1)] → W p l e R s m args below meth c H locs 0 0 Q (F0 m 66 ls [.int s1, .ref s0]) := by
    intro x1 s0 s1 mm H locs ls hf hS hl
    unfold fX12_fellow_j66 at hf
    refine lv_iload_n hx hb dX12_fellow_66 rfl (lv_at hl 0 rfl) ?_
    refine lv_iconst (v := 0) hx hb dX12_fellow_67 (by decide) ?_
    obtain ⟨v1, h1, hf⟩ := bs hf
    refine am_endi hS (am_runS (As := [.int s1, .int x1, .int 0]) X (hml.trans hl.1.symm) hS (cX12_in_ok (l := l) (E := E) h1) ms_X12_319 ⟨Nat.le_trans (by decide) hR.1, Nat.le_trans (by decide) hR.2⟩ ⟨Nat.zero_le _, Nat.zero_le _⟩ rfl rfl (Nat.le_of_ble_eq_true rfl) dX12_fellow_68) (fun H locs hS => ?_)
    refine lv_bipush (v := 7) hx hb dX12_fellow_71 (by decide) ?_
    obtain ⟨u0, h0, hf⟩ := bs hf
    obtain ⟨_, hrc⟩ := isO_n h0
    obtain ⟨v2, h1, hf⟩ := bs hf
    refine am_endi hS (am_runV (As := [.int v1, .int 7]) X (hml.trans hl.1.symm) hS (cX12_sumOf_ok (l := l) (E := E) h1) mv_X12_322 hrc rfl ⟨Nat.le_trans (by decide) hR.1, Nat.le_trans (by decide) hR.2⟩ ⟨Nat.zero_le _, Nat.zero_le _⟩ rfl rfl (Nat.le_of_ble_eq_true rfl) dX12_fellow_73) (fun H locs hS => ?_)
    exact hj76 v2 mm H locs ls hf hS (lv_sub hl [] rfl)
  intro H locs ls hS hl
  refine lv_aload_n hx hb dX12_fellow_0 rfl (lv_at hl 0 rfl) ?_
  refine lv_iconst (v := 0) hx hb dX12_fellow_1 (by decide) ?_
  obtain ⟨m3, h1, hf⟩ := bs hf
  refine am_pi X hS fp_X12_3 rfl h1 dX12_fellow_2 (fun H locs hS => ?_)
  refine lv_aload_n hx hb dX12_fellow_5 rfl (lv_at hl 0 rfl) ?_
  refine lv_iload_n hx hb dX12_fellow_6 rfl (lv_at hl 1 rfl) ?_
  refine lv_iconst (v := 1) hx hb dX12_fellow_7 (by decide) ?_
  obtain ⟨u0, h0, hf⟩ := bs hf
  obtain ⟨_, hrc⟩ := isO_n h0
  obtain ⟨v4, m5, h1, hf⟩ := bs2 hf
  refine am_endi hS (am_runV (As := [.int x1, .int 1]) X (hml.trans hl.1.symm) hS (cX12_isFellow_ok (l := l) (E := E) h1) mv_X12_377 hrc rfl ⟨Nat.le_trans (by decide) hR.1, Nat.le_trans (by decide) hR.2⟩ ⟨Nat.zero_le _, Nat.zero_le _⟩ rfl rfl (Nat.le_of_ble_eq_true rfl) dX12_fellow_8) (fun H locs hS => ?_)
  refine lv_if_eq (tgt := 30) hx hb dX12_fellow_11 (by decide) (fun q6 => ?_) (fun q6 => ?_)
  · have hf := ifp hf q6
    exact hj30 m5 H locs ls hf hS (lv_sub hl [] rfl)
  · have hf := ifn hf q6
    refine lv_aload_n hx hb dX12_fellow_14 rfl (lv_at hl 0 rfl) ?_
    refine lv_iload_n hx hb dX12_fellow_15 rfl (lv_at hl 2 rfl) ?_
    refine lv_iconst (v := 0) hx hb dX12_fellow_16 (by decide) ?_
    refine lv_bipush (v := 7) hx hb dX12_fellow_17 (by decide) ?_
    obtain ⟨v7, h1, hf⟩ := bs hf
    refine am_endi hS (am_runS (As := [.int x2, .int 0, .int 7]) X (hml.trans hl.1.symm) hS (cX12_within_ok (l := l) (E := E) h1) ms_X12_368 ⟨Nat.le_trans (by decide) hR.1, Nat.le_trans (by decide) hR.2⟩ ⟨Nat.zero_le _, Nat.zero_le _⟩ rfl rfl (Nat.le_of_ble_eq_true rfl) dX12_fellow_19) (fun H locs hS => ?_)
    refine lv_iconst (v := 2) hx hb dX12_fellow_22 (by decide) ?_
    refine lv_iconst (v := 1) hx hb dX12_fellow_23 (by decide) ?_
    obtain ⟨u0, h0, hf⟩ := bs hf
    obtain ⟨_, hrc⟩ := isO_n h0
    obtain ⟨v8, m9, h1, hf⟩ := bs2 hf
    refine am_endi hS (am_runV (As := [.int v7, .int 2, .int 1]) X (hml.trans hl.1.symm) hS (cX12_may_ok (l := l) (E := E) h1) mv_X12_190 hrc rfl ⟨Nat.le_trans (by decide) hR.1, Nat.le_trans (by decide) hR.2⟩ ⟨Nat.zero_le _, Nat.zero_le _⟩ rfl rfl (Nat.le_of_ble_eq_true rfl) dX12_fellow_24) (fun H locs hS => ?_)
    refine lv_if_ne (tgt := 32) hx hb dX12_fellow_27 (by decide) (fun q10 => ?_) (fun q10 => ?_)
    · have hf := ifn hf q10
      refine lv_aload_n hx hb dX12_fellow_32 rfl (lv_at hl 0 rfl) ?_
      obtain ⟨u0, h0, hf⟩ := bs hf
      obtain ⟨_, hrc⟩ := isO_n h0
      obtain ⟨m11, h1, hf⟩ := bs hf
      refine am_endv hS (am_runV (As := []) X (hml.trans hl.1.symm) hS (cX12_take_ok (l := l) (E := E) h1) mv_X12_301 hrc rfl ⟨Nat.le_trans (by decide) hR.1, Nat.le_trans (by decide) hR.2⟩ ⟨Nat.zero_le _, Nat.zero_le _⟩ rfl rfl (Nat.le_of_ble_eq_true rfl) dX12_fellow_33) (fun H locs hS => ?_)
      refine lv_iload_n hx hb dX12_fellow_36 rfl (lv_at hl 2 rfl) ?_
      refine lv_iconst (v := 3) hx hb dX12_fellow_37 (by decide) ?_
      refine lv_icmp_ge (tgt := 77) hx hb dX12_fellow_38 (by decide) (fun q12 => ?_) (fun q12 => ?_)
      · have hf := ifp hf q12
        refine lv_iload_n hx hb dX12_fellow_77 rfl (lv_at hl 2 rfl) ?_
        refine lv_bipush (v := 6) hx hb dX12_fellow_78 (by decide) ?_
        refine lv_icmp_ge (tgt := 128) hx hb dX12_fellow_80 (by decide) (fun q13 => ?_) (fun q13 => ?_)
        · have hf := ifp hf q13
          refine lv_aload_n hx hb dX12_fellow_128 rfl (lv_at hl 0 rfl) ?_
          refine lv_iload_n hx hb dX12_fellow_129 rfl (lv_at hl 1 rfl) ?_
          refine lv_iload_n hx hb dX12_fellow_130 rfl (lv_at hl 2 rfl) ?_
          refine lv_bipush (v := 6) hx hb dX12_fellow_131 (by decide) ?_
          refine lv_isub hx hb dX12_fellow_133 ?_
          obtain ⟨u0, h0, hf⟩ := bs hf
          obtain ⟨_, hrc⟩ := isO_n h0
          obtain ⟨v14, h1, hf⟩ := bs hf
          refine am_endi hS (am_runV (As := [.int x1, .int (x2 - 6)]) X (hml.trans hl.1.symm) hS (cX12_spotOf_ok (l := l) (E := E) h1) mv_X12_383 hrc rfl ⟨Nat.le_trans (by decide) hR.1, Nat.le_trans (by decide) hR.2⟩ ⟨Nat.zero_le _, Nat.zero_le _⟩ rfl rfl (Nat.le_of_ble_eq_true rfl) dX12_fellow_134) (fun H locs hS => ?_)
          cases hf
          exact hret _ _ _ _ rfl dX12_fellow_137 hS
        · have hf := ifn hf q13
          refine lv_iload_n hx hb dX12_fellow_83 rfl (lv_at hl 2 rfl) ?_
          refine lv_iconst (v := 3) hx hb dX12_fellow_84 (by decide) ?_
          refine lv_icmp_ne (tgt := 96) hx hb dX12_fellow_85 (by decide) (fun q15 => ?_) (fun q15 => ?_)
          · have hf := ifn hf q15
            refine lv_iload_n hx hb dX12_fellow_96 rfl (lv_at hl 2 rfl) ?_
            refine lv_iconst (v := 5) hx hb dX12_fellow_97 (by decide) ?_
            refine lv_icmp_ne (tgt := 114) hx hb dX12_fellow_98 (by decide) (fun q16 => ?_) (fun q16 => ?_)
            · have hf := ifn hf q16
              refine lv_aload_n hx hb dX12_fellow_114 rfl (lv_at hl 0 rfl) ?_
              refine lv_iload_n hx hb dX12_fellow_115 rfl (lv_at hl 1 rfl) ?_
              obtain ⟨u0, h0, hf⟩ := bs hf
              obtain ⟨_, hrc⟩ := isO_n h0
              obtain ⟨v17, h1, hf⟩ := bs hf
              refine am_endi hS (am_runV (As := [.int x1]) X (hml.trans hl.1.symm) hS (cX12_isWhite_ok (l := l) (E := E) h1) mv_X12_362 hrc rfl ⟨Nat.le_trans (by decide) hR.1, Nat.le_trans (by decide) hR.2⟩ ⟨Nat.zero_le _, Nat.zero_le _⟩ rfl rfl (Nat.le_of_ble_eq_true rfl) dX12_fellow_116) (fun H locs hS => ?_)
              refine lv_if_eq (tgt := 126) hx hb dX12_fellow_119 (by decide) (fun q18 => ?_) (fun q18 => ?_)
              · have hf := ifp hf q18
                refine lv_iconst (v := 0) hx hb dX12_fellow_126 (by decide) ?_
                exact hj127 0 m11 H locs ls hf hS (lv_sub hl [] rfl)
              · have hf := ifn hf q18
                refine lv_iconst (v := 1) hx hb dX12_fellow_122 (by decide) ?_
                refine lv_goto (tgt := 127) hx hb dX12_fellow_123 (by decide) ?_
                exact hj127 1 m11 H locs ls hf hS (lv_sub hl [] rfl)
            · have hf := ifp hf q16
              refine lv_aload_n hx hb dX12_fellow_101 rfl (lv_at hl 0 rfl) ?_
              obtain ⟨a19, h1, hf⟩ := bs hf
              refine am_gr X hS fl_X12_62 rfl h1 dX12_fellow_102 ?_
              refine lv_sipush (v := 168) hx hb dX12_fellow_105 (by decide) ?_
              refine lv_iload_n hx hb dX12_fellow_108 rfl (lv_at hl 1 rfl) ?_
              refine lv_iadd hx hb dX12_fellow_109 ?_
              obtain ⟨v20, h1, hf⟩ := bs hf
              refine am_ald X hS h1 dX12_fellow_110 ?_
              refine lv_goto (tgt := 127) hx hb dX12_fellow_111 (by decide) ?_
              exact hj127 v20 m11 H locs ls hf hS (lv_sub hl [] rfl)
          · have hf := ifp hf q15
            refine lv_aload_n hx hb dX12_fellow_88 rfl (lv_at hl 0 rfl) ?_
            refine lv_iload_n hx hb dX12_fellow_89 rfl (lv_at hl 1 rfl) ?_
            obtain ⟨u0, h0, hf⟩ := bs hf
            obtain ⟨_, hrc⟩ := isO_n h0
            obtain ⟨v21, h1, hf⟩ := bs hf
            refine am_endi hS (am_runV (As := [.int x1]) X (hml.trans hl.1.symm) hS (cX12_darkOf_ok (l := l) (E := E) h1) mv_X12_380 hrc rfl ⟨Nat.le_trans (by decide) hR.1, Nat.le_trans (by decide) hR.2⟩ ⟨Nat.zero_le _, Nat.zero_le _⟩ rfl rfl (Nat.le_of_ble_eq_true rfl) dX12_fellow_90) (fun H locs hS => ?_)
            refine lv_goto (tgt := 127) hx hb dX12_fellow_93 (by decide) ?_
            exact hj127 v21 m11 H locs ls hf hS (lv_sub hl [] rfl)
      · have hf := ifn hf q12
        refine lv_iload_n hx hb dX12_fellow_41 rfl (lv_at hl 2 rfl) ?_
        refine lv_if_ne (tgt := 53) hx hb dX12_fellow_42 (by decide) (fun q22 => ?_) (fun q22 => ?_)
        · have hf := ifn hf q22
          refine lv_aload_n hx hb dX12_fellow_53 rfl (lv_at hl 0 rfl) ?_
          refine lv_iload_n hx hb dX12_fellow_54 rfl (lv_at hl 2 rfl) ?_
          refine lv_iconst (v := 1) hx hb dX12_fellow_55 (by decide) ?_
          refine lv_icmp_ne (tgt := 64) hx hb dX12_fellow_56 (by decide) (fun q23 => ?_) (fun q23 => ?_)
          · have hf := ifn hf q23
            refine lv_bipush (v := 126) hx hb dX12_fellow_64 (by decide) ?_
            exact hj66 x1 x0 126 m11 H locs ls hf hS (lv_sub hl [1] rfl)
          · have hf := ifp hf q23
            refine lv_bipush (v := 42) hx hb dX12_fellow_59 (by decide) ?_
            refine lv_goto (tgt := 66) hx hb dX12_fellow_61 (by decide) ?_
            exact hj66 x1 x0 42 m11 H locs ls hf hS (lv_sub hl [1] rfl)
        · have hf := ifp hf q22
          refine lv_aload_n hx hb dX12_fellow_45 rfl (lv_at hl 0 rfl) ?_
          refine lv_iload_n hx hb dX12_fellow_46 rfl (lv_at hl 1 rfl) ?_
          obtain ⟨u0, h0, hf⟩ := bs hf
          obtain ⟨_, hrc⟩ := isO_n h0
          obtain ⟨v24, h1, hf⟩ := bs hf
          refine am_endi hS (am_runV (As := [.int x1]) X (hml.trans hl.1.symm) hS (cX12_withinOf_ok (l := l) (E := E) h1) mv_X12_328 hrc rfl ⟨Nat.le_trans (by decide) hR.1, Nat.le_trans (by decide) hR.2⟩ ⟨Nat.zero_le _, Nat.zero_le _⟩ rfl rfl (Nat.le_of_ble_eq_true rfl) dX12_fellow_47) (fun H locs hS => ?_)
          refine lv_goto (tgt := 76) hx hb dX12_fellow_50 (by decide) ?_
          exact hj76 v24 m11 H locs ls hf hS (lv_sub hl [] rfl)
    · have hf := ifp hf q10
      exact hj30 m9 H locs ls hf hS (lv_sub hl [] rfl)
set_option maxRecDepth 100000 in
theorem cX12_fellow_ok {l : Launch} {E : Ev} {x0 : Nat} {x1 : Int32} {x2 : Int32} {mm : Mem} {r : Int32} {mm1 : Mem} (hf : fX12_fellow (eS E) x0 x1 x2 mm = some (r, mm1)) : CtI l yX12_fellow cX12_fellow 3 (some .int) 2 47 E [.ref x0, .int x1, .int x2] mm r mm1 := by
  refine Met.ofW (cc := cX12_fellow) (maxL := 3) (ret := (some .int)) (by decide) rfl ?_
  intro p e s m args below meth c s₁ B hml hv
  obtain ⟨rfl, X, hS, hr, hlocks⟩ := am_in B hv
  refine am_entry (Nat.le_of_ble_eq_true rfl) (fun ls hl => ?_)
  exact wX12_fellow X hml ⟨Nat.le_refl _, Nat.le_refl _⟩ hf (fun pc H locs ls hn hd hS => am_ri X hS hr hn hd hlocks) _ _ ls hS hl
set_option maxHeartbeats 4000000 in
set_option maxRecDepth 100000 in
theorem wX12_isPart {p : Program} {l : Launch} {e : Env} {R : Room} {s : State} {m : MethodId} {args : Array Value} {below : List Frame} {meth : Method} {c : Code} {Q : State → Prop} {E : Ev} (X : Cx p s m args c cX12_isPart RX12 E) (hml : c.maxLocals = 1) (hR : 0 ≤ R.frames ∧ 0 ≤ R.locals) {x0 : Int32} {mm : Mem} {r : Int32} (hf : fX12_isPart x0 = some r) (hret : ∀ (pc : Nat) (H : Heap) (locs : List Loc) (ls : Array Slot), narrow .boolean (.int r) = .int r → decode cX12_isPart pc = .ok (.ireturn, 1) → wS E s mm H locs → W p l e R s m args below meth c H locs 0 0 Q (F0 m pc ls [.int r])) : ∀ (H : Heap) (locs : List Loc) (ls : Array Slot), wS E s mm H locs → lv_has ls 1 [(0, .int x0)] → W p l e R s m args below meth c H locs 0 0 Q (F0 m 0 ls []) := by
  have hx := X.1
  have hb := X.2.1
  unfold fX12_isPart at hf
  have hj15 : ∀ (s0 : Int32) (H : Heap) (locs : List Loc) (ls : Array Slot), fX12_isPart_j15 s0 = some r → wS E s mm H locs → lv_has ls 1 [] → W p l e R s m args below meth c H locs 0 0 Q (F0 m 15 ls [.int s0]) := by
    intro s0 H locs ls hf hS hl
    unfold fX12_isPart_j15 at hf
    obtain ⟨v1, h1, hf⟩ := bs hf
    obtain ⟨rfl, h2⟩ := ckZ_n h1
    cases hf
    exact hret _ _ _ _ h2 dX12_isPart_15 hS
  have hj14 : ∀ (H : Heap) (locs : List Loc) (ls : Array Slot), fX12_isPart_j14 = some r → wS E s mm H locs → lv_has ls 1 [] → W p l e R s m args below meth c H locs 0 0 Q (F0 m 14 ls []) := by
    intro H locs ls hf hS hl
    unfold fX12_isPart_j14 at hf
    refine lv_iconst (v := 0) hx hb dX12_isPart_14 (by decide) ?_
    exact hj15 0 H locs ls hf hS hl
  intro H locs ls hS hl
  refine lv_iload_n hx hb dX12_isPart_0 rfl (lv_at hl 0 rfl) ?_
  refine lv_if_lt (tgt := 14) hx hb dX12_isPart_1 (by decide) (fun q2 => ?_) (fun q2 => ?_)
  · have hf := ifp hf q2
    exact hj14  H locs ls hf hS (lv_sub hl [] rfl)
  · have hf := ifn hf q2
    refine lv_iload_n hx hb dX12_isPart_4 rfl (lv_at hl 0 rfl) ?_
    refine lv_bipush (v := 7) hx hb dX12_isPart_5 (by decide) ?_
    refine lv_icmp_ge (tgt := 14) hx hb dX12_isPart_7 (by decide) (fun q3 => ?_) (fun q3 => ?_)
    · have hf := ifp hf q3
      exact hj14  H locs ls hf hS (lv_sub hl [] rfl)
    · have hf := ifn hf q3
      refine lv_iconst (v := 1) hx hb dX12_isPart_10 (by decide) ?_
      refine lv_goto (tgt := 15) hx hb dX12_isPart_11 (by decide) ?_
      exact hj15 1 H locs ls hf hS (lv_sub hl [] rfl)
set_option maxRecDepth 100000 in
theorem cX12_isPart_ok {l : Launch} {E : Ev} {x0 : Int32} {mm : Mem} {r : Int32} (hf : fX12_isPart x0 = some r) : CtI l yX12_isPart cX12_isPart 1 (some .boolean) 0 0 E [.int x0] mm r mm := by
  refine Met.ofW (cc := cX12_isPart) (maxL := 1) (ret := (some .boolean)) (by decide) rfl ?_
  intro p e s m args below meth c s₁ B hml hv
  obtain ⟨rfl, X, hS, hr, hlocks⟩ := am_in B hv
  refine am_entry (Nat.le_of_ble_eq_true rfl) (fun ls hl => ?_)
  exact wX12_isPart X hml ⟨Nat.le_refl _, Nat.le_refl _⟩ hf (fun pc H locs ls hn hd hS => am_ri X hS hr hn hd hlocks) _ _ ls hS hl
set_option maxHeartbeats 4000000 in
set_option maxRecDepth 100000 in
theorem wX12_part {p : Program} {l : Launch} {e : Env} {R : Room} {s : State} {m : MethodId} {args : Array Value} {below : List Frame} {meth : Method} {c : Code} {Q : State → Prop} {E : Ev} (X : Cx p s m args c cX12_part RX12 E) (hml : c.maxLocals = 4) (hR : 2 ≤ R.frames ∧ 45 ≤ R.locals) {x0 : Nat} {x1 : Int32} {x2 : Int32} {x3 : Int32} {mm : Mem} {r : Int32} {mm1 : Mem} (hf : fX12_part (eS E) x0 x1 x2 x3 mm = some (r, mm1)) (hret : ∀ (pc : Nat) (H : Heap) (locs : List Loc) (ls : Array Slot), narrow .int (.int r) = .int r → decode cX12_part pc = .ok (.ireturn, 1) → wS E s mm1 H locs → W p l e R s m args below meth c H locs 0 0 Q (F0 m pc ls [.int r])) : ∀ (H : Heap) (locs : List Loc) (ls : Array Slot), wS E s mm H locs → lv_has ls 4 [(0, .ref x0), (1, .int x1), (2, .int x2), (3, .int x3)] → W p l e R s m args below meth c H locs 0 0 Q (F0 m 0 ls []) := by
  have hx := X.1
  have hb := X.2.1
  unfold fX12_part at hf
  have hj44 : ∀ (mm : Mem) (H : Heap) (locs : List Loc) (ls : Array Slot), fX12_part_j44 (eS E) mm = some (r, mm1) → wS E s mm H locs → lv_has ls 4 [] → W p l e R s m args below meth c H locs 0 0 Q (F0 m 44 ls []) := by
    intro mm H locs ls hf hS hl
    unfold fX12_part_j44 at hf
    refine lv_iconst (v := 0) hx hb dX12_part_44 (by decide) ?_
    cases hf
    exact hret _ _ _ _ rfl dX12_part_45 hS
  have hj107 : ∀ (x1 : Int32) (x2 : Int32) (s0 : Nat) (s1 : Int32) (mm : Mem) (H : Heap) (locs : List Loc) (ls : Array Slot), fX12_part_j107 (eS E) x1 x2 s0 s1 mm = some (r, mm1) → wS E s mm H locs → lv_has ls 4 [(1, .int x1), (2, .int x2)] → W p l e R s m args below meth c H locs 0 0 Q (F0 m 107 ls [.int s1, .ref s0]) := by
    intro x1 x2 s0 s1 mm H locs ls hf hS hl
    unfold fX12_part_j107 at hf
    refine lv_iload_n hx hb dX12_part_107 rfl (lv_at hl 0 rfl) ?_
    refine lv_iload_n hx hb dX12_part_108 rfl (lv_at hl 1 rfl) ?_
    obtain ⟨v1, h1, hf⟩ := bs hf
    refine am_endi hS (am_runS (As := [.int s1, .int x1, .int x2]) X (hml.trans hl.1.symm) hS (cX12_in_ok (l := l) (E := E) h1) ms_X12_319 ⟨Nat.le_trans (by decide) hR.1, Nat.le_trans (by decide) hR.2⟩ ⟨Nat.zero_le _, Nat.zero_le _⟩ rfl rfl (Nat.le_of_ble_eq_true rfl) dX12_part_109) (fun H locs hS => ?_)
    obtain ⟨v2, h1, hf⟩ := bs hf
    refine am_ald X hS h1 dX12_part_112 ?_
    cases hf
    exact hret _ _ _ _ rfl dX12_part_113 hS
  have hj82 : ∀ (s0 : Int32) (mm : Mem) (H : Heap) (locs : List Loc) (ls : Array Slot), fX12_part_j82 (eS E) s0 mm = some (r, mm1) → wS E s mm H locs → lv_has ls 4 [] → W p l e R s m args below meth c H locs 0 0 Q (F0 m 82 ls [.int s0]) := by
    intro s0 mm H locs ls hf hS hl
    unfold fX12_part_j82 at hf
    cases hf
    exact hret _ _ _ _ rfl dX12_part_82 hS
  have hj36 : ∀ (x0 : Nat) (x1 : Int32) (x2 : Int32) (x3 : Int32) (s0 : Nat) (s1 : Int32) (mm : Mem) (H : Heap) (locs : List Loc) (ls : Array Slot), fX12_part_j36 (eS E) x0 x1 x2 x3 s0 s1 mm = some (r, mm1) → wS E s mm H locs → lv_has ls 4 [(0, .ref x0), (1, .int x1), (2, .int x2), (3, .int x3)] → W p l e R s m args below meth c H locs 0 0 Q (F0 m 36 ls [.int s1, .ref s0]) := by
    intro x0 x1 x2 x3 s0 s1 mm H locs ls hf hS hl
    unfold fX12_part_j36 at hf
    refine lv_iconst (v := 2) hx hb dX12_part_36 (by decide) ?_
    refine lv_iconst (v := 1) hx hb dX12_part_37 (by decide) ?_
    obtain ⟨u0, h0, hf⟩ := bs hf
    obtain ⟨_, hrc⟩ := isO_n h0
    obtain ⟨v3, m4, h1, hf⟩ := bs2 hf
    refine am_endi hS (am_runV (As := [.int s1, .int 2, .int 1]) X (hml.trans hl.1.symm) hS (cX12_may_ok (l := l) (E := E) h1) mv_X12_190 hrc rfl ⟨Nat.le_trans (by decide) hR.1, Nat.le_trans (by decide) hR.2⟩ ⟨Nat.zero_le _, Nat.zero_le _⟩ rfl rfl (Nat.le_of_ble_eq_true rfl) dX12_part_38) (fun H locs hS => ?_)
    refine lv_if_ne (tgt := 46) hx hb dX12_part_41 (by decide) (fun q5 => ?_) (fun q5 => ?_)
    · have hf := ifn hf q5
      refine lv_iload_n hx hb dX12_part_46 rfl (lv_at hl 3 rfl) ?_
      refine lv_iconst (v := 2) hx hb dX12_part_47 (by decide) ?_
      refine lv_icmp_ne (tgt := 83) hx hb dX12_part_48 (by decide) (fun q6 => ?_) (fun q6 => ?_)
      · have hf := ifn hf q6
        refine lv_aload_n hx hb dX12_part_83 rfl (lv_at hl 0 rfl) ?_
        obtain ⟨a7, h1, hf⟩ := bs hf
        refine am_gr X hS fl_X12_59 rfl h1 dX12_part_84 ?_
        refine lv_iload_n hx hb dX12_part_87 rfl (lv_at hl 3 rfl) ?_
        refine lv_if_ne (tgt := 95) hx hb dX12_part_88 (by decide) (fun q8 => ?_) (fun q8 => ?_)
        · have hf := ifn hf q8
          refine lv_iload_n hx hb dX12_part_95 rfl (lv_at hl 3 rfl) ?_
          refine lv_iconst (v := 1) hx hb dX12_part_96 (by decide) ?_
          refine lv_icmp_ne (tgt := 105) hx hb dX12_part_97 (by decide) (fun q9 => ?_) (fun q9 => ?_)
          · have hf := ifn hf q9
            refine lv_bipush (v := 126) hx hb dX12_part_105 (by decide) ?_
            exact hj107 x1 x2 a7 126 m4 H locs ls hf hS (lv_sub hl [1, 2] rfl)
          · have hf := ifp hf q9
            refine lv_bipush (v := 42) hx hb dX12_part_100 (by decide) ?_
            refine lv_goto (tgt := 107) hx hb dX12_part_102 (by decide) ?_
            exact hj107 x1 x2 a7 42 m4 H locs ls hf hS (lv_sub hl [1, 2] rfl)
        · have hf := ifp hf q8
          refine lv_iconst (v := 0) hx hb dX12_part_91 (by decide) ?_
          refine lv_goto (tgt := 107) hx hb dX12_part_92 (by decide) ?_
          exact hj107 x1 x2 a7 0 m4 H locs ls hf hS (lv_sub hl [1, 2] rfl)
      · have hf := ifp hf q6
        refine lv_aload_n hx hb dX12_part_51 rfl (lv_at hl 0 rfl) ?_
        obtain ⟨a10, h1, hf⟩ := bs hf
        refine am_gr X hS fl_X12_59 rfl h1 dX12_part_52 ?_
        refine lv_bipush (v := 42) hx hb dX12_part_55 (by decide) ?_
        refine lv_iload_n hx hb dX12_part_57 rfl (lv_at hl 1 rfl) ?_
        refine lv_iload_n hx hb dX12_part_58 rfl (lv_at hl 2 rfl) ?_
        obtain ⟨v11, h1, hf⟩ := bs hf
        refine am_endi hS (am_runS (As := [.int 42, .int x1, .int x2]) X (hml.trans hl.1.symm) hS (cX12_in_ok (l := l) (E := E) h1) ms_X12_319 ⟨Nat.le_trans (by decide) hR.1, Nat.le_trans (by decide) hR.2⟩ ⟨Nat.zero_le _, Nat.zero_le _⟩ rfl rfl (Nat.le_of_ble_eq_true rfl) dX12_part_59) (fun H locs hS => ?_)
        obtain ⟨v12, h1, hf⟩ := bs hf
        refine am_ald X hS h1 dX12_part_62 ?_
        refine lv_if_ne (tgt := 70) hx hb dX12_part_63 (by decide) (fun q13 => ?_) (fun q13 => ?_)
        · have hf := ifn hf q13
          refine lv_aload_n hx hb dX12_part_70 rfl (lv_at hl 0 rfl) ?_
          obtain ⟨a14, h1, hf⟩ := bs hf
          refine am_gr X hS fl_X12_59 rfl h1 dX12_part_71 ?_
          refine lv_bipush (v := 84) hx hb dX12_part_74 (by decide) ?_
          refine lv_iload_n hx hb dX12_part_76 rfl (lv_at hl 1 rfl) ?_
          refine lv_iload_n hx hb dX12_part_77 rfl (lv_at hl 2 rfl) ?_
          obtain ⟨v15, h1, hf⟩ := bs hf
          refine am_endi hS (am_runS (As := [.int 84, .int x1, .int x2]) X (hml.trans hl.1.symm) hS (cX12_in_ok (l := l) (E := E) h1) ms_X12_319 ⟨Nat.le_trans (by decide) hR.1, Nat.le_trans (by decide) hR.2⟩ ⟨Nat.zero_le _, Nat.zero_le _⟩ rfl rfl (Nat.le_of_ble_eq_true rfl) dX12_part_78) (fun H locs hS => ?_)
          obtain ⟨v16, h1, hf⟩ := bs hf
          refine am_ald X hS h1 dX12_part_81 ?_
          exact hj82 v16 m4 H locs ls hf hS (lv_sub hl [] rfl)
        · have hf := ifp hf q13
          refine lv_iconst (v := (-1)) hx hb dX12_part_66 (by decide) ?_
          refine lv_goto (tgt := 82) hx hb dX12_part_67 (by decide) ?_
          exact hj82 (-1) m4 H locs ls hf hS (lv_sub hl [] rfl)
    · have hf := ifp hf q5
      exact hj44 m4 H locs ls hf hS (lv_sub hl [] rfl)
  have hj35 : ∀ (x0 : Nat) (x1 : Int32) (x2 : Int32) (x3 : Int32) (s0 : Nat) (mm : Mem) (H : Heap) (locs : List Loc) (ls : Array Slot), fX12_part_j35 (eS E) x0 x1 x2 x3 s0 mm = some (r, mm1) → wS E s mm H locs → lv_has ls 4 [(0, .ref x0), (1, .int x1), (2, .int x2), (3, .int x3)] → W p l e R s m args below meth c H locs 0 0 Q (F0 m 35 ls [.ref s0]) := by
    intro x0 x1 x2 x3 s0 mm H locs ls hf hS hl
    unfold fX12_part_j35 at hf
    refine lv_iconst (v := 0) hx hb dX12_part_35 (by decide) ?_
    exact hj36 x0 x1 x2 x3 s0 0 mm H locs ls hf hS hl
  intro H locs ls hS hl
  refine lv_aload_n hx hb dX12_part_0 rfl (lv_at hl 0 rfl) ?_
  refine lv_iconst (v := 0) hx hb dX12_part_1 (by decide) ?_
  obtain ⟨m17, h1, hf⟩ := bs hf
  refine am_pi X hS fp_X12_3 rfl h1 dX12_part_2 (fun H locs hS => ?_)
  refine lv_aload_n hx hb dX12_part_5 rfl (lv_at hl 0 rfl) ?_
  refine lv_iload_n hx hb dX12_part_6 rfl (lv_at hl 1 rfl) ?_
  refine lv_iconst (v := 1) hx hb dX12_part_7 (by decide) ?_
  obtain ⟨u0, h0, hf⟩ := bs hf
  obtain ⟨_, hrc⟩ := isO_n h0
  obtain ⟨v18, m19, h1, hf⟩ := bs2 hf
  refine am_endi hS (am_runV (As := [.int x1, .int 1]) X (hml.trans hl.1.symm) hS (cX12_isFellow_ok (l := l) (E := E) h1) mv_X12_377 hrc rfl ⟨Nat.le_trans (by decide) hR.1, Nat.le_trans (by decide) hR.2⟩ ⟨Nat.zero_le _, Nat.zero_le _⟩ rfl rfl (Nat.le_of_ble_eq_true rfl) dX12_part_8) (fun H locs hS => ?_)
  refine lv_if_eq (tgt := 44) hx hb dX12_part_11 (by decide) (fun q20 => ?_) (fun q20 => ?_)
  · have hf := ifp hf q20
    exact hj44 m19 H locs ls hf hS (lv_sub hl [] rfl)
  · have hf := ifn hf q20
    refine lv_aload_n hx hb dX12_part_14 rfl (lv_at hl 0 rfl) ?_
    refine lv_iload_n hx hb dX12_part_15 rfl (lv_at hl 2 rfl) ?_
    obtain ⟨v21, h1, hf⟩ := bs hf
    refine am_endi hS (am_runS (As := [.int x2]) X (hml.trans hl.1.symm) hS (cX12_isPart_ok (l := l) (E := E) h1) ms_X12_386 ⟨Nat.le_trans (by decide) hR.1, Nat.le_trans (by decide) hR.2⟩ ⟨Nat.zero_le _, Nat.zero_le _⟩ rfl rfl (Nat.le_of_ble_eq_true rfl) dX12_part_16) (fun H locs hS => ?_)
    refine lv_if_eq (tgt := 35) hx hb dX12_part_19 (by decide) (fun q22 => ?_) (fun q22 => ?_)
    · have hf := ifp hf q22
      exact hj35 x0 x1 x2 x3 x0 m19 H locs ls hf hS hl
    · have hf := ifn hf q22
      refine lv_iload_n hx hb dX12_part_22 rfl (lv_at hl 3 rfl) ?_
      refine lv_iconst (v := 0) hx hb dX12_part_23 (by decide) ?_
      refine lv_iconst (v := 3) hx hb dX12_part_24 (by decide) ?_
      obtain ⟨v23, h1, hf⟩ := bs hf
      refine am_endi hS (am_runS (As := [.int x3, .int 0, .int 3]) X (hml.trans hl.1.symm) hS (cX12_within_ok (l := l) (E := E) h1) ms_X12_368 ⟨Nat.le_trans (by decide) hR.1, Nat.le_trans (by decide) hR.2⟩ ⟨Nat.zero_le _, Nat.zero_le _⟩ rfl rfl (Nat.le_of_ble_eq_true rfl) dX12_part_25) (fun H locs hS => ?_)
      refine lv_if_eq (tgt := 35) hx hb dX12_part_28 (by decide) (fun q24 => ?_) (fun q24 => ?_)
      · have hf := ifp hf q24
        exact hj35 x0 x1 x2 x3 x0 m19 H locs ls hf hS hl
      · have hf := ifn hf q24
        refine lv_iconst (v := 1) hx hb dX12_part_31 (by decide) ?_
        refine lv_goto (tgt := 36) hx hb dX12_part_32 (by decide) ?_
        exact hj36 x0 x1 x2 x3 x0 1 m19 H locs ls hf hS hl
set_option maxRecDepth 100000 in
theorem cX12_part_ok {l : Launch} {E : Ev} {x0 : Nat} {x1 : Int32} {x2 : Int32} {x3 : Int32} {mm : Mem} {r : Int32} {mm1 : Mem} (hf : fX12_part (eS E) x0 x1 x2 x3 mm = some (r, mm1)) : CtI l yX12_part cX12_part 4 (some .int) 2 45 E [.ref x0, .int x1, .int x2, .int x3] mm r mm1 := by
  refine Met.ofW (cc := cX12_part) (maxL := 4) (ret := (some .int)) (by decide) rfl ?_
  intro p e s m args below meth c s₁ B hml hv
  obtain ⟨rfl, X, hS, hr, hlocks⟩ := am_in B hv
  refine am_entry (Nat.le_of_ble_eq_true rfl) (fun ls hl => ?_)
  exact wX12_part X hml ⟨Nat.le_refl _, Nat.le_refl _⟩ hf (fun pc H locs ls hn hd hS => am_ri X hS hr hn hd hlocks) _ _ ls hS hl
set_option maxHeartbeats 4000000 in
set_option maxRecDepth 100000 in
theorem wX12_glass {p : Program} {l : Launch} {e : Env} {R : Room} {s : State} {m : MethodId} {args : Array Value} {below : List Frame} {meth : Method} {c : Code} {Q : State → Prop} {E : Ev} (X : Cx p s m args c cX12_glass RX12 E) (hml : c.maxLocals = 3) (hR : 2 ≤ R.frames ∧ 45 ≤ R.locals) {x0 : Nat} {x1 : Int32} {x2 : Int32} {mm : Mem} {r : Int32} {mm1 : Mem} (hf : fX12_glass (eS E) x0 x1 x2 mm = some (r, mm1)) (hret : ∀ (pc : Nat) (H : Heap) (locs : List Loc) (ls : Array Slot), narrow .int (.int r) = .int r → decode cX12_glass pc = .ok (.ireturn, 1) → wS E s mm1 H locs → W p l e R s m args below meth c H locs 0 0 Q (F0 m pc ls [.int r])) : ∀ (H : Heap) (locs : List Loc) (ls : Array Slot), wS E s mm H locs → lv_has ls 3 [(0, .ref x0), (1, .int x1), (2, .int x2)] → W p l e R s m args below meth c H locs 0 0 Q (F0 m 0 ls []) := by
  have hx := X.1
  have hb := X.2.1
  unfold fX12_glass at hf
  have hj29 : ∀ (mm : Mem) (H : Heap) (locs : List Loc) (ls : Array Slot), fX12_glass_j29 (eS E) mm = some (r, mm1) → wS E s mm H locs → lv_has ls 3 [] → W p l e R s m args below meth c H locs 0 0 Q (F0 m 29 ls []) := by
    intro mm H locs ls hf hS hl
    unfold fX12_glass_j29 at hf
    refine lv_iconst (v := 0) hx hb dX12_glass_29 (by decide) ?_
    cases hf
    exact hret _ _ _ _ rfl dX12_glass_30 hS
  intro H locs ls hS hl
  refine lv_aload_n hx hb dX12_glass_0 rfl (lv_at hl 0 rfl) ?_
  refine lv_iconst (v := 0) hx hb dX12_glass_1 (by decide) ?_
  obtain ⟨m1, h1, hf⟩ := bs hf
  refine am_pi X hS fp_X12_3 rfl h1 dX12_glass_2 (fun H locs hS => ?_)
  refine lv_aload_n hx hb dX12_glass_5 rfl (lv_at hl 0 rfl) ?_
  refine lv_iload_n hx hb dX12_glass_6 rfl (lv_at hl 1 rfl) ?_
  refine lv_iconst (v := 1) hx hb dX12_glass_7 (by decide) ?_
  obtain ⟨u0, h0, hf⟩ := bs hf
  obtain ⟨_, hrc⟩ := isO_n h0
  obtain ⟨v2, m3, h1, hf⟩ := bs2 hf
  refine am_endi hS (am_runV (As := [.int x1, .int 1]) X (hml.trans hl.1.symm) hS (cX12_isGlass_ok (l := l) (E := E) h1) mv_X12_389 hrc rfl ⟨Nat.le_trans (by decide) hR.1, Nat.le_trans (by decide) hR.2⟩ ⟨Nat.zero_le _, Nat.zero_le _⟩ rfl rfl (Nat.le_of_ble_eq_true rfl) dX12_glass_8) (fun H locs hS => ?_)
  refine lv_if_eq (tgt := 29) hx hb dX12_glass_11 (by decide) (fun q4 => ?_) (fun q4 => ?_)
  · have hf := ifp hf q4
    exact hj29 m3 H locs ls hf hS (lv_sub hl [] rfl)
  · have hf := ifn hf q4
    refine lv_aload_n hx hb dX12_glass_14 rfl (lv_at hl 0 rfl) ?_
    refine lv_iload_n hx hb dX12_glass_15 rfl (lv_at hl 2 rfl) ?_
    refine lv_iconst (v := 0) hx hb dX12_glass_16 (by decide) ?_
    refine lv_iconst (v := 1) hx hb dX12_glass_17 (by decide) ?_
    obtain ⟨v5, h1, hf⟩ := bs hf
    refine am_endi hS (am_runS (As := [.int x2, .int 0, .int 1]) X (hml.trans hl.1.symm) hS (cX12_within_ok (l := l) (E := E) h1) ms_X12_368 ⟨Nat.le_trans (by decide) hR.1, Nat.le_trans (by decide) hR.2⟩ ⟨Nat.zero_le _, Nat.zero_le _⟩ rfl rfl (Nat.le_of_ble_eq_true rfl) dX12_glass_18) (fun H locs hS => ?_)
    refine lv_iconst (v := 2) hx hb dX12_glass_21 (by decide) ?_
    refine lv_iconst (v := 1) hx hb dX12_glass_22 (by decide) ?_
    obtain ⟨u0, h0, hf⟩ := bs hf
    obtain ⟨_, hrc⟩ := isO_n h0
    obtain ⟨v6, m7, h1, hf⟩ := bs2 hf
    refine am_endi hS (am_runV (As := [.int v5, .int 2, .int 1]) X (hml.trans hl.1.symm) hS (cX12_may_ok (l := l) (E := E) h1) mv_X12_190 hrc rfl ⟨Nat.le_trans (by decide) hR.1, Nat.le_trans (by decide) hR.2⟩ ⟨Nat.zero_le _, Nat.zero_le _⟩ rfl rfl (Nat.le_of_ble_eq_true rfl) dX12_glass_23) (fun H locs hS => ?_)
    refine lv_if_ne (tgt := 31) hx hb dX12_glass_26 (by decide) (fun q8 => ?_) (fun q8 => ?_)
    · have hf := ifn hf q8
      refine lv_aload_n hx hb dX12_glass_31 rfl (lv_at hl 0 rfl) ?_
      obtain ⟨a9, h1, hf⟩ := bs hf
      refine am_gr X hS fl_X12_32 rfl h1 dX12_glass_32 ?_
      refine lv_iconst (v := 2) hx hb dX12_glass_35 (by decide) ?_
      refine lv_iload_n hx hb dX12_glass_36 rfl (lv_at hl 1 rfl) ?_
      refine lv_imul hx hb dX12_glass_37 ?_
      refine lv_iload_n hx hb dX12_glass_38 rfl (lv_at hl 2 rfl) ?_
      refine lv_iadd hx hb dX12_glass_39 ?_
      obtain ⟨v10, h1, hf⟩ := bs hf
      refine am_ald X hS h1 dX12_glass_40 ?_
      cases hf
      exact hret _ _ _ _ rfl dX12_glass_41 hS
    · have hf := ifp hf q8
      exact hj29 m7 H locs ls hf hS (lv_sub hl [] rfl)
set_option maxRecDepth 100000 in
theorem cX12_glass_ok {l : Launch} {E : Ev} {x0 : Nat} {x1 : Int32} {x2 : Int32} {mm : Mem} {r : Int32} {mm1 : Mem} (hf : fX12_glass (eS E) x0 x1 x2 mm = some (r, mm1)) : CtI l yX12_glass cX12_glass 3 (some .int) 2 45 E [.ref x0, .int x1, .int x2] mm r mm1 := by
  refine Met.ofW (cc := cX12_glass) (maxL := 3) (ret := (some .int)) (by decide) rfl ?_
  intro p e s m args below meth c s₁ B hml hv
  obtain ⟨rfl, X, hS, hr, hlocks⟩ := am_in B hv
  refine am_entry (Nat.le_of_ble_eq_true rfl) (fun ls hl => ?_)
  exact wX12_glass X hml ⟨Nat.le_refl _, Nat.le_refl _⟩ hf (fun pc H locs ls hn hd hS => am_ri X hS hr hn hd hlocks) _ _ ls hS hl
set_option maxHeartbeats 4000000 in
set_option maxRecDepth 100000 in
theorem wX12_atPlace {p : Program} {l : Launch} {e : Env} {R : Room} {s : State} {m : MethodId} {args : Array Value} {below : List Frame} {meth : Method} {c : Code} {Q : State → Prop} {E : Ev} (X : Cx p s m args c cX12_atPlace RX12 E) (hml : c.maxLocals = 4) (hR : 0 ≤ R.frames ∧ 0 ≤ R.locals) {x0 : Nat} {x1 : Int32} {mm : Mem} {r : Int32} (hf : fX12_atPlace (eS E) x0 x1 mm = some r) (hret : ∀ (pc : Nat) (H : Heap) (locs : List Loc) (ls : Array Slot), narrow .int (.int r) = .int r → decode cX12_atPlace pc = .ok (.ireturn, 1) → wS E s mm H locs → W p l e R s m args below meth c H locs 0 0 Q (F0 m pc ls [.int r])) : ∀ (H : Heap) (locs : List Loc) (ls : Array Slot), wS E s mm H locs → lv_has ls 4 [(0, .ref x0), (1, .int x1)] → W p l e R s m args below meth c H locs 0 0 Q (F0 m 0 ls []) := by
  have hx := X.1
  have hb := X.2.1
  unfold fX12_atPlace at hf
  have hj45 : ∀ (x2 : Int32) (H : Heap) (locs : List Loc) (ls : Array Slot), fX12_atPlace_j45 (eS E) x2 mm = some r → wS E s mm H locs → lv_has ls 4 [(2, .int x2)] → W p l e R s m args below meth c H locs 0 0 Q (F0 m 45 ls []) := by
    intro x2 H locs ls hf hS hl
    unfold fX12_atPlace_j45 at hf
    refine lv_iload_n hx hb dX12_atPlace_45 rfl (lv_at hl 0 rfl) ?_
    cases hf
    exact hret _ _ _ _ rfl dX12_atPlace_46 hS
  intro H locs ls hS hl
  refine lv_iconst (v := 0) hx hb dX12_atPlace_0 (by decide) ?_
  refine lv_topi (fun x2_1 e1 => ?_)
  have hf := lt1_n e1 hf
  refine lv_istore_n (lv' := [(2, .int x2_1), (0, .ref x0), (1, .int x1)]) hx hb dX12_atPlace_1 rfl hl (by decide) rfl (fun ls hl => ?_)
  refine lv_iconst (v := 0) hx hb dX12_atPlace_2 (by decide) ?_
  refine lv_topi (fun x3_2 e1 => ?_)
  have hf := lt1_n e1 hf
  refine lv_istore_n (lv' := [(3, .int x3_2), (2, .int x2_1), (0, .ref x0), (1, .int x1)]) hx hb dX12_atPlace_3 rfl hl (by decide) rfl (fun ls hl => ?_)
  obtain ⟨ex4, hl4, hk4⟩ := bs hf
  refine loop_W (P := fun st => ∀ (H : Heap) (locs : List Loc) (ls : Array Slot), wS E s mm H locs → lv_has ls 4 [(0, .ref x0), (1, .int x1), (2, .int st.1), (3, .int st.2)] → W p l e R s m args below meth c H locs 0 0 Q (F0 m 4 ls [])) (ex := ex4) ?_ FU _ hl4 H locs ls hS (lv_sub hl [2, 3, 1, 0] rfl)
  intro st y4 hf hyL4 hyR4 H locs ls hS hl
  obtain ⟨x2, x3⟩ := st
  have hf : fX12_atPlace_b4 (eS E) x0 x1 x2 x3 mm = some y4 := hf
  have hS : wS E s mm H locs := hS
  have hl : lv_has ls 4 [(0, .ref x0), (1, .int x1), (2, .int x2), (3, .int x3)] := hl
  unfold fX12_atPlace_b4 at hf
  have hj37 : ∀ (x3 : Int32) (s0 : Int32) (s1 : Int32) (H : Heap) (locs : List Loc) (ls : Array Slot), fX12_atPlace_j37 (eS E) x0 x1 x3 s0 s1 mm = some y4 → wS E s mm H locs → lv_has ls 4 [(0, .ref x0), (1, .int x1), (3, .int x3)] → W p l e R s m args below meth c H locs 0 0 Q (F0 m 37 ls [.int s1, .int s0]) := by
    intro x3 s0 s1 H locs ls hf hS hl
    unfold fX12_atPlace_j37 at hf
    refine lv_iadd hx hb dX12_atPlace_37 ?_
    refine lv_topi (fun x2_3 e1 => ?_)
    have hf := lt1_n e1 hf
    refine lv_istore_n (lv' := [(2, .int x2_3), (0, .ref x0), (1, .int x1), (3, .int x3)]) hx hb dX12_atPlace_38 rfl hl (by decide) rfl (fun ls hl => ?_)
    obtain ⟨x3_4, e1⟩ : ∃ z : Int32, z = x3 + 1 := ⟨_, rfl⟩
    have hf := lt1_n e1 hf
    refine lv_iinc (v := x3_4) (lv' := [(3, .int x3_4), (2, .int x2_3), (0, .ref x0), (1, .int x1)]) hx hb dX12_atPlace_39 hl (k := 3) rfl (by rw [e1]; rfl) (by decide) rfl (fun ls hl => ?_)
    refine lv_goto (tgt := 4) hx hb dX12_atPlace_42 (by decide) ?_
    exact hyL4 _ (Option.some.inj hf).symm H locs ls hS (lv_sub hl [2, 3, 1, 0] rfl)
  refine lv_iload_n hx hb dX12_atPlace_4 rfl (lv_at hl 3 rfl) ?_
  refine lv_bipush (v := 42) hx hb dX12_atPlace_5 (by decide) ?_
  refine lv_icmp_ge (tgt := 45) hx hb dX12_atPlace_7 (by decide) (fun q5 => ?_) (fun q5 => ?_)
  · have hf := ifp hf q5
    obtain rfl : x2 = ex4 := hyR4 _ (Option.some.inj hf).symm
    exact hj45 x2 H locs ls hk4 hS (lv_sub hl [2] rfl)
  · have hf := ifn hf q5
    refine lv_iload_n hx hb dX12_atPlace_10 rfl (lv_at hl 2 rfl) ?_
    refine lv_aload_n hx hb dX12_atPlace_11 rfl (lv_at hl 0 rfl) ?_
    obtain ⟨a6, h1, hf⟩ := bs hf
    refine am_gr X hS fl_X12_62 rfl h1 dX12_atPlace_12 ?_
    refine lv_bipush (v := 84) hx hb dX12_atPlace_15 (by decide) ?_
    refine lv_iload_n hx hb dX12_atPlace_17 rfl (lv_at hl 3 rfl) ?_
    refine lv_iadd hx hb dX12_atPlace_18 ?_
    obtain ⟨v7, h1, hf⟩ := bs hf
    refine am_ald X hS h1 dX12_atPlace_19 ?_
    refine lv_iload_n hx hb dX12_atPlace_20 rfl (lv_at hl 1 rfl) ?_
    refine lv_icmp_ne (tgt := 36) hx hb dX12_atPlace_21 (by decide) (fun q8 => ?_) (fun q8 => ?_)
    · have hf := ifn hf q8
      refine lv_iconst (v := 0) hx hb dX12_atPlace_36 (by decide) ?_
      exact hj37 x3 x2 0 H locs ls hf hS (lv_sub hl [0, 1, 3] rfl)
    · have hf := ifp hf q8
      refine lv_aload_n hx hb dX12_atPlace_24 rfl (lv_at hl 0 rfl) ?_
      obtain ⟨a9, h1, hf⟩ := bs hf
      refine am_gr X hS fl_X12_62 rfl h1 dX12_atPlace_25 ?_
      refine lv_bipush (v := 42) hx hb dX12_atPlace_28 (by decide) ?_
      refine lv_iload_n hx hb dX12_atPlace_30 rfl (lv_at hl 3 rfl) ?_
      refine lv_iadd hx hb dX12_atPlace_31 ?_
      obtain ⟨v10, h1, hf⟩ := bs hf
      refine am_ald X hS h1 dX12_atPlace_32 ?_
      refine lv_goto (tgt := 37) hx hb dX12_atPlace_33 (by decide) ?_
      exact hj37 x3 x2 v10 H locs ls hf hS (lv_sub hl [0, 1, 3] rfl)
set_option maxRecDepth 100000 in
theorem cX12_atPlace_ok {l : Launch} {E : Ev} {x0 : Nat} {x1 : Int32} {mm : Mem} {r : Int32} (hf : fX12_atPlace (eS E) x0 x1 mm = some r) : CtI l yX12_atPlace cX12_atPlace 4 (some .int) 0 0 E [.ref x0, .int x1] mm r mm := by
  refine Met.ofW (cc := cX12_atPlace) (maxL := 4) (ret := (some .int)) (by decide) rfl ?_
  intro p e s m args below meth c s₁ B hml hv
  obtain ⟨rfl, X, hS, hr, hlocks⟩ := am_in B hv
  refine am_entry (Nat.le_of_ble_eq_true rfl) (fun ls hl => ?_)
  exact wX12_atPlace X hml ⟨Nat.le_refl _, Nat.le_refl _⟩ hf (fun pc H locs ls hn hd hS => am_ri X hS hr hn hd hlocks) _ _ ls hS hl
set_option maxHeartbeats 4000000 in
set_option maxRecDepth 100000 in
theorem wX12_place {p : Program} {l : Launch} {e : Env} {R : Room} {s : State} {m : MethodId} {args : Array Value} {below : List Frame} {meth : Method} {c : Code} {Q : State → Prop} {E : Ev} (X : Cx p s m args c cX12_place RX12 E) (hml : c.maxLocals = 2) (hR : 2 ≤ R.frames ∧ 44 ≤ R.locals) {x0 : Nat} {x1 : Int32} {mm : Mem} {r : Int32} {mm1 : Mem} (hf : fX12_place (eS E) x0 x1 mm = some (r, mm1)) (hret : ∀ (pc : Nat) (H : Heap) (locs : List Loc) (ls : Array Slot), narrow .int (.int r) = .int r → decode cX12_place pc = .ok (.ireturn, 1) → wS E s mm1 H locs → W p l e R s m args below meth c H locs 0 0 Q (F0 m pc ls [.int r])) : ∀ (H : Heap) (locs : List Loc) (ls : Array Slot), wS E s mm H locs → lv_has ls 2 [(0, .ref x0), (1, .int x1)] → W p l e R s m args below meth c H locs 0 0 Q (F0 m 0 ls []) := by
  have hx := X.1
  have hb := X.2.1
  unfold fX12_place at hf
  intro H locs ls hS hl
  refine lv_aload_n hx hb dX12_place_0 rfl (lv_at hl 0 rfl) ?_
  refine lv_iconst (v := 0) hx hb dX12_place_1 (by decide) ?_
  obtain ⟨m1, h1, hf⟩ := bs hf
  refine am_pi X hS fp_X12_3 rfl h1 dX12_place_2 (fun H locs hS => ?_)
  refine lv_aload_n hx hb dX12_place_5 rfl (lv_at hl 0 rfl) ?_
  refine lv_iload_n hx hb dX12_place_6 rfl (lv_at hl 1 rfl) ?_
  refine lv_iconst (v := 0) hx hb dX12_place_7 (by decide) ?_
  refine lv_aload_n hx hb dX12_place_8 rfl (lv_at hl 0 rfl) ?_
  obtain ⟨v2, h1, hf⟩ := bs hf
  refine am_gi X hS fl_X12_156 rfl h1 dX12_place_9 ?_
  refine lv_iconst (v := 1) hx hb dX12_place_12 (by decide) ?_
  refine lv_isub hx hb dX12_place_13 ?_
  obtain ⟨v3, h1, hf⟩ := bs hf
  refine am_endi hS (am_runS (As := [.int x1, .int 0, .int (v2 - 1)]) X (hml.trans hl.1.symm) hS (cX12_within_ok (l := l) (E := E) h1) ms_X12_368 ⟨Nat.le_trans (by decide) hR.1, Nat.le_trans (by decide) hR.2⟩ ⟨Nat.zero_le _, Nat.zero_le _⟩ rfl rfl (Nat.le_of_ble_eq_true rfl) dX12_place_14) (fun H locs hS => ?_)
  refine lv_iconst (v := 1) hx hb dX12_place_17 (by decide) ?_
  refine lv_iconst (v := 1) hx hb dX12_place_18 (by decide) ?_
  obtain ⟨u0, h0, hf⟩ := bs hf
  obtain ⟨_, hrc⟩ := isO_n h0
  obtain ⟨v4, m5, h1, hf⟩ := bs2 hf
  refine am_endi hS (am_runV (As := [.int v3, .int 1, .int 1]) X (hml.trans hl.1.symm) hS (cX12_may_ok (l := l) (E := E) h1) mv_X12_190 hrc rfl ⟨Nat.le_trans (by decide) hR.1, Nat.le_trans (by decide) hR.2⟩ ⟨Nat.zero_le _, Nat.zero_le _⟩ rfl rfl (Nat.le_of_ble_eq_true rfl) dX12_place_19) (fun H locs hS => ?_)
  refine lv_if_ne (tgt := 27) hx hb dX12_place_22 (by decide) (fun q6 => ?_) (fun q6 => ?_)
  · have hf := ifn hf q6
    refine lv_aload_n hx hb dX12_place_27 rfl (lv_at hl 0 rfl) ?_
    obtain ⟨u0, h0, hf⟩ := bs hf
    obtain ⟨_, hrc⟩ := isO_n h0
    obtain ⟨m7, h1, hf⟩ := bs hf
    refine am_endv hS (am_runV (As := []) X (hml.trans hl.1.symm) hS (cX12_take_ok (l := l) (E := E) h1) mv_X12_301 hrc rfl ⟨Nat.le_trans (by decide) hR.1, Nat.le_trans (by decide) hR.2⟩ ⟨Nat.zero_le _, Nat.zero_le _⟩ rfl rfl (Nat.le_of_ble_eq_true rfl) dX12_place_28) (fun H locs hS => ?_)
    refine lv_aload_n hx hb dX12_place_31 rfl (lv_at hl 0 rfl) ?_
    refine lv_iload_n hx hb dX12_place_32 rfl (lv_at hl 1 rfl) ?_
    obtain ⟨u0, h0, hf⟩ := bs hf
    obtain ⟨_, hrc⟩ := isO_n h0
    obtain ⟨v8, h1, hf⟩ := bs hf
    refine am_endi hS (am_runV (As := [.int x1]) X (hml.trans hl.1.symm) hS (cX12_atPlace_ok (l := l) (E := E) h1) mv_X12_392 hrc rfl ⟨Nat.le_trans (by decide) hR.1, Nat.le_trans (by decide) hR.2⟩ ⟨Nat.zero_le _, Nat.zero_le _⟩ rfl rfl (Nat.le_of_ble_eq_true rfl) dX12_place_33) (fun H locs hS => ?_)
    cases hf
    exact hret _ _ _ _ rfl dX12_place_36 hS
  · have hf := ifp hf q6
    refine lv_iconst (v := 0) hx hb dX12_place_25 (by decide) ?_
    cases hf
    exact hret _ _ _ _ rfl dX12_place_26 hS
set_option maxRecDepth 100000 in
theorem cX12_place_ok {l : Launch} {E : Ev} {x0 : Nat} {x1 : Int32} {mm : Mem} {r : Int32} {mm1 : Mem} (hf : fX12_place (eS E) x0 x1 mm = some (r, mm1)) : CtI l yX12_place cX12_place 2 (some .int) 2 44 E [.ref x0, .int x1] mm r mm1 := by
  refine Met.ofW (cc := cX12_place) (maxL := 2) (ret := (some .int)) (by decide) rfl ?_
  intro p e s m args below meth c s₁ B hml hv
  obtain ⟨rfl, X, hS, hr, hlocks⟩ := am_in B hv
  refine am_entry (Nat.le_of_ble_eq_true rfl) (fun ls hl => ?_)
  exact wX12_place X hml ⟨Nat.le_refl _, Nat.le_refl _⟩ hf (fun pc H locs ls hn hd hS => am_ri X hS hr hn hd hlocks) _ _ ls hS hl
set_option maxHeartbeats 4000000 in
set_option maxRecDepth 100000 in
theorem wX12_turn {p : Program} {l : Launch} {e : Env} {R : Room} {s : State} {m : MethodId} {args : Array Value} {below : List Frame} {meth : Method} {c : Code} {Q : State → Prop} {E : Ev} (X : Cx p s m args c cX12_turn RX12 E) (hml : c.maxLocals = 4) (hR : 5 ≤ R.frames ∧ 118 ≤ R.locals) {x0 : Nat} {x1 : Int32} {x2 : Int32} {x3 : Int32} {mm : Mem} {r : Int32} {mm1 : Mem} (hf : fX12_turn (eS E) x0 x1 x2 x3 mm = some (r, mm1)) (hret : ∀ (pc : Nat) (H : Heap) (locs : List Loc) (ls : Array Slot), narrow .int (.int r) = .int r → decode cX12_turn pc = .ok (.ireturn, 1) → wS E s mm1 H locs → W p l e R s m args below meth c H locs 0 0 Q (F0 m pc ls [.int r])) : ∀ (H : Heap) (locs : List Loc) (ls : Array Slot), wS E s mm H locs → lv_has ls 4 [(0, .ref x0), (1, .int x1), (2, .int x2), (3, .int x3)] → W p l e R s m args below meth c H locs 0 0 Q (F0 m 0 ls []) := by
  have hx := X.1
  have hb := X.2.1
  unfold fX12_turn at hf
  have hj36 : ∀ (mm : Mem) (H : Heap) (locs : List Loc) (ls : Array Slot), fX12_turn_j36 (eS E) mm = some (r, mm1) → wS E s mm H locs → lv_has ls 4 [] → W p l e R s m args below meth c H locs 0 0 Q (F0 m 36 ls []) := by
    intro mm H locs ls hf hS hl
    unfold fX12_turn_j36 at hf
    refine lv_iconst (v := 0) hx hb dX12_turn_36 (by decide) ?_
    cases hf
    exact hret _ _ _ _ rfl dX12_turn_37 hS
  intro H locs ls hS hl
  refine lv_aload_n hx hb dX12_turn_0 rfl (lv_at hl 0 rfl) ?_
  refine lv_iconst (v := 0) hx hb dX12_turn_1 (by decide) ?_
  obtain ⟨m1, h1, hf⟩ := bs hf
  refine am_pi X hS fp_X12_3 rfl h1 dX12_turn_2 (fun H locs hS => ?_)
  refine lv_aload_n hx hb dX12_turn_5 rfl (lv_at hl 0 rfl) ?_
  refine lv_iload_n hx hb dX12_turn_6 rfl (lv_at hl 1 rfl) ?_
  refine lv_iconst (v := 1) hx hb dX12_turn_7 (by decide) ?_
  obtain ⟨u0, h0, hf⟩ := bs hf
  obtain ⟨_, hrc⟩ := isO_n h0
  obtain ⟨v2, m3, h1, hf⟩ := bs2 hf
  refine am_endi hS (am_runV (As := [.int x1, .int 1]) X (hml.trans hl.1.symm) hS (cX12_isFellow_ok (l := l) (E := E) h1) mv_X12_377 hrc rfl ⟨Nat.le_trans (by decide) hR.1, Nat.le_trans (by decide) hR.2⟩ ⟨Nat.zero_le _, Nat.zero_le _⟩ rfl rfl (Nat.le_of_ble_eq_true rfl) dX12_turn_8) (fun H locs hS => ?_)
  refine lv_if_eq (tgt := 36) hx hb dX12_turn_11 (by decide) (fun q4 => ?_) (fun q4 => ?_)
  · have hf := ifp hf q4
    exact hj36 m3 H locs ls hf hS (lv_sub hl [] rfl)
  · have hf := ifn hf q4
    refine lv_aload_n hx hb dX12_turn_14 rfl (lv_at hl 0 rfl) ?_
    refine lv_iload_n hx hb dX12_turn_15 rfl (lv_at hl 3 rfl) ?_
    refine lv_iconst (v := 1) hx hb dX12_turn_16 (by decide) ?_
    obtain ⟨u0, h0, hf⟩ := bs hf
    obtain ⟨_, hrc⟩ := isO_n h0
    obtain ⟨v5, m6, h1, hf⟩ := bs2 hf
    refine am_endi hS (am_runV (As := [.int x3, .int 1]) X (hml.trans hl.1.symm) hS (cX12_isGlass_ok (l := l) (E := E) h1) mv_X12_389 hrc rfl ⟨Nat.le_trans (by decide) hR.1, Nat.le_trans (by decide) hR.2⟩ ⟨Nat.zero_le _, Nat.zero_le _⟩ rfl rfl (Nat.le_of_ble_eq_true rfl) dX12_turn_17) (fun H locs hS => ?_)
    refine lv_if_eq (tgt := 36) hx hb dX12_turn_20 (by decide) (fun q7 => ?_) (fun q7 => ?_)
    · have hf := ifp hf q7
      exact hj36 m6 H locs ls hf hS (lv_sub hl [] rfl)
    · have hf := ifn hf q7
      refine lv_aload_n hx hb dX12_turn_23 rfl (lv_at hl 0 rfl) ?_
      refine lv_iload_n hx hb dX12_turn_24 rfl (lv_at hl 2 rfl) ?_
      obtain ⟨v8, h1, hf⟩ := bs hf
      refine am_endi hS (am_runS (As := [.int x2]) X (hml.trans hl.1.symm) hS (cX12_isPart_ok (l := l) (E := E) h1) ms_X12_386 ⟨Nat.le_trans (by decide) hR.1, Nat.le_trans (by decide) hR.2⟩ ⟨Nat.zero_le _, Nat.zero_le _⟩ rfl rfl (Nat.le_of_ble_eq_true rfl) dX12_turn_25) (fun H locs hS => ?_)
      refine lv_iconst (v := 2) hx hb dX12_turn_28 (by decide) ?_
      refine lv_iconst (v := 1) hx hb dX12_turn_29 (by decide) ?_
      obtain ⟨u0, h0, hf⟩ := bs hf
      obtain ⟨_, hrc⟩ := isO_n h0
      obtain ⟨v9, m10, h1, hf⟩ := bs2 hf
      refine am_endi hS (am_runV (As := [.int v8, .int 2, .int 1]) X (hml.trans hl.1.symm) hS (cX12_may_ok (l := l) (E := E) h1) mv_X12_190 hrc rfl ⟨Nat.le_trans (by decide) hR.1, Nat.le_trans (by decide) hR.2⟩ ⟨Nat.zero_le _, Nat.zero_le _⟩ rfl rfl (Nat.le_of_ble_eq_true rfl) dX12_turn_30) (fun H locs hS => ?_)
      refine lv_if_ne (tgt := 38) hx hb dX12_turn_33 (by decide) (fun q11 => ?_) (fun q11 => ?_)
      · have hf := ifn hf q11
        refine lv_aload_n hx hb dX12_turn_38 rfl (lv_at hl 0 rfl) ?_
        obtain ⟨u0, h0, hf⟩ := bs hf
        obtain ⟨_, hrc⟩ := isO_n h0
        obtain ⟨m12, h1, hf⟩ := bs hf
        refine am_endv hS (am_runV (As := []) X (hml.trans hl.1.symm) hS (cX12_take_ok (l := l) (E := E) h1) mv_X12_301 hrc rfl ⟨Nat.le_trans (by decide) hR.1, Nat.le_trans (by decide) hR.2⟩ ⟨Nat.zero_le _, Nat.zero_le _⟩ rfl rfl (Nat.le_of_ble_eq_true rfl) dX12_turn_39) (fun H locs hS => ?_)
        refine lv_aload_n hx hb dX12_turn_42 rfl (lv_at hl 0 rfl) ?_
        refine lv_iload_n hx hb dX12_turn_43 rfl (lv_at hl 1 rfl) ?_
        refine lv_iload_n hx hb dX12_turn_44 rfl (lv_at hl 2 rfl) ?_
        refine lv_iload_n hx hb dX12_turn_45 rfl (lv_at hl 3 rfl) ?_
        refine lv_aload_n hx hb dX12_turn_46 rfl (lv_at hl 0 rfl) ?_
        obtain ⟨a13, h1, hf⟩ := bs hf
        refine am_gr X hS fl_X12_62 rfl h1 dX12_turn_47 ?_
        refine lv_iconst (v := 0) hx hb dX12_turn_50 (by decide) ?_
        refine lv_iload_n hx hb dX12_turn_51 rfl (lv_at hl 1 rfl) ?_
        refine lv_iload_n hx hb dX12_turn_52 rfl (lv_at hl 2 rfl) ?_
        obtain ⟨v14, h1, hf⟩ := bs hf
        refine am_endi hS (am_runS (As := [.int 0, .int x1, .int x2]) X (hml.trans hl.1.symm) hS (cX12_in_ok (l := l) (E := E) h1) ms_X12_319 ⟨Nat.le_trans (by decide) hR.1, Nat.le_trans (by decide) hR.2⟩ ⟨Nat.zero_le _, Nat.zero_le _⟩ rfl rfl (Nat.le_of_ble_eq_true rfl) dX12_turn_53) (fun H locs hS => ?_)
        obtain ⟨v15, h1, hf⟩ := bs hf
        refine am_ald X hS h1 dX12_turn_56 ?_
        obtain ⟨u0, h0, hf⟩ := bs hf
        obtain ⟨_, hrc⟩ := isO_n h0
        obtain ⟨v16, m17, h1, hf⟩ := bs2 hf
        refine am_endi hS (am_runV (As := [.int x1, .int x2, .int x3, .int v15]) X (hml.trans hl.1.symm) hS (cX12_turnsBy_ok (l := l) (E := E) h1) mv_X12_338 hrc rfl ⟨Nat.le_trans (by decide) hR.1, Nat.le_trans (by decide) hR.2⟩ ⟨Nat.zero_le _, Nat.zero_le _⟩ rfl rfl (Nat.le_of_ble_eq_true rfl) dX12_turn_57) (fun H locs hS => ?_)
        cases hf
        exact hret _ _ _ _ rfl dX12_turn_60 hS
      · have hf := ifp hf q11
        exact hj36 m10 H locs ls hf hS (lv_sub hl [] rfl)
set_option maxRecDepth 100000 in
theorem cX12_turn_ok {l : Launch} {E : Ev} {x0 : Nat} {x1 : Int32} {x2 : Int32} {x3 : Int32} {mm : Mem} {r : Int32} {mm1 : Mem} (hf : fX12_turn (eS E) x0 x1 x2 x3 mm = some (r, mm1)) : CtI l yX12_turn cX12_turn 4 (some .int) 5 118 E [.ref x0, .int x1, .int x2, .int x3] mm r mm1 := by
  refine Met.ofW (cc := cX12_turn) (maxL := 4) (ret := (some .int)) (by decide) rfl ?_
  intro p e s m args below meth c s₁ B hml hv
  obtain ⟨rfl, X, hS, hr, hlocks⟩ := am_in B hv
  refine am_entry (Nat.le_of_ble_eq_true rfl) (fun ls hl => ?_)
  exact wX12_turn X hml ⟨Nat.le_refl _, Nat.le_refl _⟩ hf (fun pc H locs ls hn hd hS => am_ri X hS hr hn hd hlocks) _ _ ls hS hl
set_option maxHeartbeats 4000000 in
set_option maxRecDepth 100000 in
theorem wX12_would {p : Program} {l : Launch} {e : Env} {R : Room} {s : State} {m : MethodId} {args : Array Value} {below : List Frame} {meth : Method} {c : Code} {Q : State → Prop} {E : Ev} (X : Cx p s m args c cX12_would RX12 E) (hml : c.maxLocals = 9) (hR : 4 ≤ R.frames ∧ 94 ≤ R.locals) {x0 : Nat} {x1 : Int32} {x2 : Int32} {x3 : Int32} {x4 : Int32} {x5 : Int32} {x6 : Int32} {x7 : Int32} {x8 : Int32} {mm : Mem} {r : Int32} {mm1 : Mem} (hf : fX12_would (eS E) x0 x1 x2 x3 x4 x5 x6 x7 x8 mm = some (r, mm1)) (hret : ∀ (pc : Nat) (H : Heap) (locs : List Loc) (ls : Array Slot), narrow .int (.int r) = .int r → decode cX12_would pc = .ok (.ireturn, 1) → wS E s mm1 H locs → W p l e R s m args below meth c H locs 0 0 Q (F0 m pc ls [.int r])) : ∀ (H : Heap) (locs : List Loc) (ls : Array Slot), wS E s mm H locs → lv_has ls 9 [(0, .ref x0), (1, .int x1), (2, .int x2), (3, .int x3), (4, .int x4), (5, .int x5), (6, .int x6), (7, .int x7), (8, .int x8)] → W p l e R s m args below meth c H locs 0 0 Q (F0 m 0 ls []) := by
  have hx := X.1
  have hb := X.2.1
  unfold fX12_would at hf
  have hj97 : ∀ (x0 : Nat) (x1 : Int32) (x2 : Int32) (x3 : Int32) (x4 : Int32) (x5 : Int32) (x6 : Int32) (x7 : Int32) (x8 : Int32) (s0 : Nat) (s1 : Int32) (mm : Mem) (H : Heap) (locs : List Loc) (ls : Array Slot), fX12_would_j97 (eS E) x0 x1 x2 x3 x4 x5 x6 x7 x8 s0 s1 mm = some (r, mm1) → wS E s mm H locs → lv_has ls 9 [(0, .ref x0), (1, .int x1), (2, .int x2), (3, .int x3), (4, .int x4), (5, .int x5), (6, .int x6), (7, .int x7), (8, .int x8)] → W p l e R s m args below meth c H locs 0 0 Q (F0 m 97 ls [.int s1, .ref s0]) := by
    intro x0 x1 x2 x3 x4 x5 x6 x7 x8 s0 s1 mm H locs ls hf hS hl
    unfold fX12_would_j97 at hf
    refine lv_iconst (v := 1) hx hb dX12_would_97 (by decide) ?_
    refine lv_iconst (v := 1) hx hb dX12_would_98 (by decide) ?_
    obtain ⟨u0, h0, hf⟩ := bs hf
    obtain ⟨_, hrc⟩ := isO_n h0
    obtain ⟨v1, m2, h1, hf⟩ := bs2 hf
    refine am_endi hS (am_runV (As := [.int s1, .int 1, .int 1]) X (hml.trans hl.1.symm) hS (cX12_may_ok (l := l) (E := E) h1) mv_X12_190 hrc rfl ⟨Nat.le_trans (by decide) hR.1, Nat.le_trans (by decide) hR.2⟩ ⟨Nat.zero_le _, Nat.zero_le _⟩ rfl rfl (Nat.le_of_ble_eq_true rfl) dX12_would_99) (fun H locs hS => ?_)
    refine lv_if_ne (tgt := 107) hx hb dX12_would_102 (by decide) (fun q3 => ?_) (fun q3 => ?_)
    · have hf := ifn hf q3
      refine lv_aload_n hx hb dX12_would_107 rfl (lv_at hl 0 rfl) ?_
      refine lv_iload_n hx hb dX12_would_108 rfl (lv_at hl 1 rfl) ?_
      refine lv_iload_n hx hb dX12_would_109 rfl (lv_at hl 2 rfl) ?_
      refine lv_iload_n hx hb dX12_would_110 rfl (lv_at hl 3 rfl) ?_
      refine lv_iload hx hb dX12_would_111 (lv_at hl 4 rfl) ?_
      refine lv_iload hx hb dX12_would_113 (lv_at hl 5 rfl) ?_
      refine lv_iload hx hb dX12_would_115 (lv_at hl 6 rfl) ?_
      refine lv_iload hx hb dX12_would_117 (lv_at hl 7 rfl) ?_
      refine lv_iload hx hb dX12_would_119 (lv_at hl 8 rfl) ?_
      obtain ⟨u0, h0, hf⟩ := bs hf
      obtain ⟨_, hrc⟩ := isO_n h0
      obtain ⟨v4, m5, h1, hf⟩ := bs2 hf
      refine am_endi hS (am_runV (As := [.int x1, .int x2, .int x3, .int x4, .int x5, .int x6, .int x7, .int x8]) X (hml.trans hl.1.symm) hS (cX12_turnsOf_ok (l := l) (E := E) h1) mv_X12_331 hrc rfl ⟨Nat.le_trans (by decide) hR.1, Nat.le_trans (by decide) hR.2⟩ ⟨Nat.zero_le _, Nat.zero_le _⟩ rfl rfl (Nat.le_of_ble_eq_true rfl) dX12_would_121) (fun H locs hS => ?_)
      cases hf
      exact hret _ _ _ _ rfl dX12_would_124 hS
    · have hf := ifp hf q3
      refine lv_iconst (v := 0) hx hb dX12_would_105 (by decide) ?_
      cases hf
      exact hret _ _ _ _ rfl dX12_would_106 hS
  have hj96 : ∀ (x0 : Nat) (x1 : Int32) (x2 : Int32) (x3 : Int32) (x4 : Int32) (x5 : Int32) (x6 : Int32) (x7 : Int32) (x8 : Int32) (s0 : Nat) (mm : Mem) (H : Heap) (locs : List Loc) (ls : Array Slot), fX12_would_j96 (eS E) x0 x1 x2 x3 x4 x5 x6 x7 x8 s0 mm = some (r, mm1) → wS E s mm H locs → lv_has ls 9 [(0, .ref x0), (1, .int x1), (2, .int x2), (3, .int x3), (4, .int x4), (5, .int x5), (6, .int x6), (7, .int x7), (8, .int x8)] → W p l e R s m args below meth c H locs 0 0 Q (F0 m 96 ls [.ref s0]) := by
    intro x0 x1 x2 x3 x4 x5 x6 x7 x8 s0 mm H locs ls hf hS hl
    unfold fX12_would_j96 at hf
    refine lv_iconst (v := 0) hx hb dX12_would_96 (by decide) ?_
    exact hj97 x0 x1 x2 x3 x4 x5 x6 x7 x8 s0 0 mm H locs ls hf hS hl
  intro H locs ls hS hl
  refine lv_aload_n hx hb dX12_would_0 rfl (lv_at hl 0 rfl) ?_
  refine lv_iconst (v := 0) hx hb dX12_would_1 (by decide) ?_
  obtain ⟨m6, h1, hf⟩ := bs hf
  refine am_pi X hS fp_X12_3 rfl h1 dX12_would_2 (fun H locs hS => ?_)
  refine lv_aload_n hx hb dX12_would_5 rfl (lv_at hl 0 rfl) ?_
  refine lv_iload_n hx hb dX12_would_6 rfl (lv_at hl 1 rfl) ?_
  obtain ⟨v7, h1, hf⟩ := bs hf
  refine am_endi hS (am_runS (As := [.int x1]) X (hml.trans hl.1.symm) hS (cX12_isPart_ok (l := l) (E := E) h1) ms_X12_386 ⟨Nat.le_trans (by decide) hR.1, Nat.le_trans (by decide) hR.2⟩ ⟨Nat.zero_le _, Nat.zero_le _⟩ rfl rfl (Nat.le_of_ble_eq_true rfl) dX12_would_7) (fun H locs hS => ?_)
  refine lv_if_eq (tgt := 96) hx hb dX12_would_10 (by decide) (fun q8 => ?_) (fun q8 => ?_)
  · have hf := ifp hf q8
    exact hj96 x0 x1 x2 x3 x4 x5 x6 x7 x8 x0 m6 H locs ls hf hS hl
  · have hf := ifn hf q8
    refine lv_iload_n hx hb dX12_would_13 rfl (lv_at hl 2 rfl) ?_
    refine lv_iconst (v := 0) hx hb dX12_would_14 (by decide) ?_
    refine lv_sipush (v := 400) hx hb dX12_would_15 (by decide) ?_
    obtain ⟨v9, h1, hf⟩ := bs hf
    refine am_endi hS (am_runS (As := [.int x2, .int 0, .int 400]) X (hml.trans hl.1.symm) hS (cX12_within_ok (l := l) (E := E) h1) ms_X12_368 ⟨Nat.le_trans (by decide) hR.1, Nat.le_trans (by decide) hR.2⟩ ⟨Nat.zero_le _, Nat.zero_le _⟩ rfl rfl (Nat.le_of_ble_eq_true rfl) dX12_would_18) (fun H locs hS => ?_)
    refine lv_if_eq (tgt := 96) hx hb dX12_would_21 (by decide) (fun q10 => ?_) (fun q10 => ?_)
    · have hf := ifp hf q10
      exact hj96 x0 x1 x2 x3 x4 x5 x6 x7 x8 x0 m6 H locs ls hf hS hl
    · have hf := ifn hf q10
      refine lv_iload_n hx hb dX12_would_24 rfl (lv_at hl 3 rfl) ?_
      refine lv_iconst (v := 1) hx hb dX12_would_25 (by decide) ?_
      refine lv_bipush (v := 9) hx hb dX12_would_26 (by decide) ?_
      obtain ⟨v11, h1, hf⟩ := bs hf
      refine am_endi hS (am_runS (As := [.int x3, .int 1, .int 9]) X (hml.trans hl.1.symm) hS (cX12_within_ok (l := l) (E := E) h1) ms_X12_368 ⟨Nat.le_trans (by decide) hR.1, Nat.le_trans (by decide) hR.2⟩ ⟨Nat.zero_le _, Nat.zero_le _⟩ rfl rfl (Nat.le_of_ble_eq_true rfl) dX12_would_28) (fun H locs hS => ?_)
      refine lv_if_eq (tgt := 96) hx hb dX12_would_31 (by decide) (fun q12 => ?_) (fun q12 => ?_)
      · have hf := ifp hf q12
        exact hj96 x0 x1 x2 x3 x4 x5 x6 x7 x8 x0 m6 H locs ls hf hS hl
      · have hf := ifn hf q12
        refine lv_iload hx hb dX12_would_34 (lv_at hl 4 rfl) ?_
        refine lv_iconst (v := 0) hx hb dX12_would_36 (by decide) ?_
        refine lv_sipush (v := 2800) hx hb dX12_would_37 (by decide) ?_
        obtain ⟨v13, h1, hf⟩ := bs hf
        refine am_endi hS (am_runS (As := [.int x4, .int 0, .int 2800]) X (hml.trans hl.1.symm) hS (cX12_within_ok (l := l) (E := E) h1) ms_X12_368 ⟨Nat.le_trans (by decide) hR.1, Nat.le_trans (by decide) hR.2⟩ ⟨Nat.zero_le _, Nat.zero_le _⟩ rfl rfl (Nat.le_of_ble_eq_true rfl) dX12_would_40) (fun H locs hS => ?_)
        refine lv_if_eq (tgt := 96) hx hb dX12_would_43 (by decide) (fun q14 => ?_) (fun q14 => ?_)
        · have hf := ifp hf q14
          exact hj96 x0 x1 x2 x3 x4 x5 x6 x7 x8 x0 m6 H locs ls hf hS hl
        · have hf := ifn hf q14
          refine lv_iload hx hb dX12_would_46 (lv_at hl 5 rfl) ?_
          refine lv_iconst (v := 0) hx hb dX12_would_48 (by decide) ?_
          refine lv_sipush (v := 400) hx hb dX12_would_49 (by decide) ?_
          obtain ⟨v15, h1, hf⟩ := bs hf
          refine am_endi hS (am_runS (As := [.int x5, .int 0, .int 400]) X (hml.trans hl.1.symm) hS (cX12_within_ok (l := l) (E := E) h1) ms_X12_368 ⟨Nat.le_trans (by decide) hR.1, Nat.le_trans (by decide) hR.2⟩ ⟨Nat.zero_le _, Nat.zero_le _⟩ rfl rfl (Nat.le_of_ble_eq_true rfl) dX12_would_52) (fun H locs hS => ?_)
          refine lv_if_eq (tgt := 96) hx hb dX12_would_55 (by decide) (fun q16 => ?_) (fun q16 => ?_)
          · have hf := ifp hf q16
            exact hj96 x0 x1 x2 x3 x4 x5 x6 x7 x8 x0 m6 H locs ls hf hS hl
          · have hf := ifn hf q16
            refine lv_iload hx hb dX12_would_58 (lv_at hl 6 rfl) ?_
            refine lv_iconst (v := 0) hx hb dX12_would_60 (by decide) ?_
            refine lv_sipush (v := 999) hx hb dX12_would_61 (by decide) ?_
            obtain ⟨v17, h1, hf⟩ := bs hf
            refine am_endi hS (am_runS (As := [.int x6, .int 0, .int 999]) X (hml.trans hl.1.symm) hS (cX12_within_ok (l := l) (E := E) h1) ms_X12_368 ⟨Nat.le_trans (by decide) hR.1, Nat.le_trans (by decide) hR.2⟩ ⟨Nat.zero_le _, Nat.zero_le _⟩ rfl rfl (Nat.le_of_ble_eq_true rfl) dX12_would_64) (fun H locs hS => ?_)
            refine lv_if_eq (tgt := 96) hx hb dX12_would_67 (by decide) (fun q18 => ?_) (fun q18 => ?_)
            · have hf := ifp hf q18
              exact hj96 x0 x1 x2 x3 x4 x5 x6 x7 x8 x0 m6 H locs ls hf hS hl
            · have hf := ifn hf q18
              refine lv_iload hx hb dX12_would_70 (lv_at hl 7 rfl) ?_
              refine lv_iconst (v := 0) hx hb dX12_would_72 (by decide) ?_
              refine lv_sipush (v := 400) hx hb dX12_would_73 (by decide) ?_
              obtain ⟨v19, h1, hf⟩ := bs hf
              refine am_endi hS (am_runS (As := [.int x7, .int 0, .int 400]) X (hml.trans hl.1.symm) hS (cX12_within_ok (l := l) (E := E) h1) ms_X12_368 ⟨Nat.le_trans (by decide) hR.1, Nat.le_trans (by decide) hR.2⟩ ⟨Nat.zero_le _, Nat.zero_le _⟩ rfl rfl (Nat.le_of_ble_eq_true rfl) dX12_would_76) (fun H locs hS => ?_)
              refine lv_if_eq (tgt := 96) hx hb dX12_would_79 (by decide) (fun q20 => ?_) (fun q20 => ?_)
              · have hf := ifp hf q20
                exact hj96 x0 x1 x2 x3 x4 x5 x6 x7 x8 x0 m6 H locs ls hf hS hl
              · have hf := ifn hf q20
                refine lv_iload hx hb dX12_would_82 (lv_at hl 8 rfl) ?_
                refine lv_iconst (v := 0) hx hb dX12_would_84 (by decide) ?_
                refine lv_iconst (v := 5) hx hb dX12_would_85 (by decide) ?_
                obtain ⟨v21, h1, hf⟩ := bs hf
                refine am_endi hS (am_runS (As := [.int x8, .int 0, .int 5]) X (hml.trans hl.1.symm) hS (cX12_within_ok (l := l) (E := E) h1) ms_X12_368 ⟨Nat.le_trans (by decide) hR.1, Nat.le_trans (by decide) hR.2⟩ ⟨Nat.zero_le _, Nat.zero_le _⟩ rfl rfl (Nat.le_of_ble_eq_true rfl) dX12_would_86) (fun H locs hS => ?_)
                refine lv_if_eq (tgt := 96) hx hb dX12_would_89 (by decide) (fun q22 => ?_) (fun q22 => ?_)
                · have hf := ifp hf q22
                  exact hj96 x0 x1 x2 x3 x4 x5 x6 x7 x8 x0 m6 H locs ls hf hS hl
                · have hf := ifn hf q22
                  refine lv_iconst (v := 1) hx hb dX12_would_92 (by decide) ?_
                  refine lv_goto (tgt := 97) hx hb dX12_would_93 (by decide) ?_
                  exact hj97 x0 x1 x2 x3 x4 x5 x6 x7 x8 x0 1 m6 H locs ls hf hS hl
set_option maxRecDepth 100000 in
theorem cX12_would_ok {l : Launch} {E : Ev} {x0 : Nat} {x1 : Int32} {x2 : Int32} {x3 : Int32} {x4 : Int32} {x5 : Int32} {x6 : Int32} {x7 : Int32} {x8 : Int32} {mm : Mem} {r : Int32} {mm1 : Mem} (hf : fX12_would (eS E) x0 x1 x2 x3 x4 x5 x6 x7 x8 mm = some (r, mm1)) : CtI l yX12_would cX12_would 9 (some .int) 4 94 E [.ref x0, .int x1, .int x2, .int x3, .int x4, .int x5, .int x6, .int x7, .int x8] mm r mm1 := by
  refine Met.ofW (cc := cX12_would) (maxL := 9) (ret := (some .int)) (by decide) rfl ?_
  intro p e s m args below meth c s₁ B hml hv
  obtain ⟨rfl, X, hS, hr, hlocks⟩ := am_in B hv
  refine am_entry (Nat.le_of_ble_eq_true rfl) (fun ls hl => ?_)
  exact wX12_would X hml ⟨Nat.le_refl _, Nat.le_refl _⟩ hf (fun pc H locs ls hn hd hS => am_ri X hS hr hn hd hlocks) _ _ ls hS hl
set_option maxHeartbeats 4000000 in
set_option maxRecDepth 100000 in
theorem wX12_ahead {p : Program} {l : Launch} {e : Env} {R : Room} {s : State} {m : MethodId} {args : Array Value} {below : List Frame} {meth : Method} {c : Code} {Q : State → Prop} {E : Ev} (X : Cx p s m args c cX12_ahead RX12 E) (hml : c.maxLocals = 4) (hR : 3 ≤ R.frames ∧ 67 ≤ R.locals) {x0 : Nat} {x1 : Int32} {x2 : Int32} {mm : Mem} {r : Int32} {mm1 : Mem} (hf : fX12_ahead (eS E) x0 x1 x2 mm = some (r, mm1)) (hret : ∀ (pc : Nat) (H : Heap) (locs : List Loc) (ls : Array Slot), narrow .int (.int r) = .int r → decode cX12_ahead pc = .ok (.ireturn, 1) → wS E s mm1 H locs → W p l e R s m args below meth c H locs 0 0 Q (F0 m pc ls [.int r])) : ∀ (H : Heap) (locs : List Loc) (ls : Array Slot), wS E s mm H locs → lv_has ls 4 [(0, .ref x0), (1, .int x1), (2, .int x2)] → W p l e R s m args below meth c H locs 0 0 Q (F0 m 0 ls []) := by
  have hx := X.1
  have hb := X.2.1
  unfold fX12_ahead at hf
  have hj80 : ∀ (s0 : Int32) (mm : Mem) (H : Heap) (locs : List Loc) (ls : Array Slot), fX12_ahead_j80 (eS E) s0 mm = some (r, mm1) → wS E s mm H locs → lv_has ls 4 [] → W p l e R s m args below meth c H locs 0 0 Q (F0 m 80 ls [.int s0]) := by
    intro s0 mm H locs ls hf hS hl
    unfold fX12_ahead_j80 at hf
    cases hf
    exact hret _ _ _ _ rfl dX12_ahead_80 hS
  have hj61 : ∀ (x0 : Nat) (x2 : Int32) (mm : Mem) (H : Heap) (locs : List Loc) (ls : Array Slot), fX12_ahead_j61 (eS E) x0 x2 mm = some (r, mm1) → wS E s mm H locs → lv_has ls 4 [(0, .ref x0), (2, .int x2)] → W p l e R s m args below meth c H locs 0 0 Q (F0 m 61 ls []) := by
    intro x0 x2 mm H locs ls hf hS hl
    unfold fX12_ahead_j61 at hf
    refine lv_iload_n hx hb dX12_ahead_61 rfl (lv_at hl 1 rfl) ?_
    refine lv_if_ne (tgt := 76) hx hb dX12_ahead_62 (by decide) (fun q1 => ?_) (fun q1 => ?_)
    · have hf := ifn hf q1
      refine lv_aload_n hx hb dX12_ahead_76 rfl (lv_at hl 0 rfl) ?_
      obtain ⟨u0, h0, hf⟩ := bs hf
      obtain ⟨_, hrc⟩ := isO_n h0
      obtain ⟨v2, h1, hf⟩ := bs hf
      refine am_endi hS (am_runV (As := []) X (hml.trans hl.1.symm) hS (cX12_scattered_ok (l := l) (E := E) h1) mv_X12_374 hrc rfl ⟨Nat.le_trans (by decide) hR.1, Nat.le_trans (by decide) hR.2⟩ ⟨Nat.zero_le _, Nat.zero_le _⟩ rfl rfl (Nat.le_of_ble_eq_true rfl) dX12_ahead_77) (fun H locs hS => ?_)
      exact hj80 v2 mm H locs ls hf hS (lv_sub hl [] rfl)
    · have hf := ifp hf q1
      refine lv_aload_n hx hb dX12_ahead_65 rfl (lv_at hl 0 rfl) ?_
      refine lv_bipush (v := 42) hx hb dX12_ahead_66 (by decide) ?_
      refine lv_bipush (v := 42) hx hb dX12_ahead_68 (by decide) ?_
      obtain ⟨u0, h0, hf⟩ := bs hf
      obtain ⟨_, hrc⟩ := isO_n h0
      obtain ⟨v3, h1, hf⟩ := bs hf
      refine am_endi hS (am_runV (As := [.int 42, .int 42]) X (hml.trans hl.1.symm) hS (cX12_sumOf_ok (l := l) (E := E) h1) mv_X12_322 hrc rfl ⟨Nat.le_trans (by decide) hR.1, Nat.le_trans (by decide) hR.2⟩ ⟨Nat.zero_le _, Nat.zero_le _⟩ rfl rfl (Nat.le_of_ble_eq_true rfl) dX12_ahead_70) (fun H locs hS => ?_)
      refine lv_goto (tgt := 80) hx hb dX12_ahead_73 (by decide) ?_
      exact hj80 v3 mm H locs ls hf hS (lv_sub hl [] rfl)
  have hj30 : ∀ (x0 : Nat) (x1 : Int32) (x2 : Int32) (s0 : Nat) (s1 : Int32) (mm : Mem) (H : Heap) (locs : List Loc) (ls : Array Slot), fX12_ahead_j30 (eS E) x0 x1 x2 s0 s1 mm = some (r, mm1) → wS E s mm H locs → lv_has ls 4 [(0, .ref x0), (1, .int x1), (2, .int x2)] → W p l e R s m args below meth c H locs 0 0 Q (F0 m 30 ls [.int s1, .ref s0]) := by
    intro x0 x1 x2 s0 s1 mm H locs ls hf hS hl
    unfold fX12_ahead_j30 at hf
    refine lv_iconst (v := 1) hx hb dX12_ahead_30 (by decide) ?_
    refine lv_iconst (v := 1) hx hb dX12_ahead_31 (by decide) ?_
    obtain ⟨u0, h0, hf⟩ := bs hf
    obtain ⟨_, hrc⟩ := isO_n h0
    obtain ⟨v4, m5, h1, hf⟩ := bs2 hf
    refine am_endi hS (am_runV (As := [.int s1, .int 1, .int 1]) X (hml.trans hl.1.symm) hS (cX12_may_ok (l := l) (E := E) h1) mv_X12_190 hrc rfl ⟨Nat.le_trans (by decide) hR.1, Nat.le_trans (by decide) hR.2⟩ ⟨Nat.zero_le _, Nat.zero_le _⟩ rfl rfl (Nat.le_of_ble_eq_true rfl) dX12_ahead_32) (fun H locs hS => ?_)
    refine lv_if_ne (tgt := 40) hx hb dX12_ahead_35 (by decide) (fun q6 => ?_) (fun q6 => ?_)
    · have hf := ifn hf q6
      refine lv_aload_n hx hb dX12_ahead_40 rfl (lv_at hl 0 rfl) ?_
      obtain ⟨u0, h0, hf⟩ := bs hf
      obtain ⟨_, hrc⟩ := isO_n h0
      obtain ⟨m7, h1, hf⟩ := bs hf
      refine am_endv hS (am_runV (As := []) X (hml.trans hl.1.symm) hS (cX12_take_ok (l := l) (E := E) h1) mv_X12_301 hrc rfl ⟨Nat.le_trans (by decide) hR.1, Nat.le_trans (by decide) hR.2⟩ ⟨Nat.zero_le _, Nat.zero_le _⟩ rfl rfl (Nat.le_of_ble_eq_true rfl) dX12_ahead_41) (fun H locs hS => ?_)
      refine lv_iconst (v := 0) hx hb dX12_ahead_44 (by decide) ?_
      refine lv_topi (fun x3_8 e1 => ?_)
      have hf := lt1_n e1 hf
      refine lv_istore_n (lv' := [(3, .int x3_8), (0, .ref x0), (1, .int x1), (2, .int x2)]) hx hb dX12_ahead_45 rfl hl (by decide) rfl (fun ls hl => ?_)
      obtain ⟨ex46, hl46, hk46⟩ := bs hf
      refine loop_W (P := fun st => ∀ (H : Heap) (locs : List Loc) (ls : Array Slot), wS E s st.2 H locs → lv_has ls 4 [(0, .ref x0), (1, .int x1), (2, .int x2), (3, .int st.1)] → W p l e R s m args below meth c H locs 0 0 Q (F0 m 46 ls [])) (ex := ex46) ?_ FU _ hl46 H locs ls hS (lv_sub hl [1, 2, 3, 0] rfl)
      intro st y46 hf hyL46 hyR46 H locs ls hS hl
      obtain ⟨x3, mm⟩ := st
      have hf : fX12_ahead_b46 (eS E) x0 x1 x2 x3 mm = some y46 := hf
      have hS : wS E s mm H locs := hS
      have hl : lv_has ls 4 [(0, .ref x0), (1, .int x1), (2, .int x2), (3, .int x3)] := hl
      unfold fX12_ahead_b46 at hf
      refine lv_iload_n hx hb dX12_ahead_46 rfl (lv_at hl 3 rfl) ?_
      refine lv_iload_n hx hb dX12_ahead_47 rfl (lv_at hl 1 rfl) ?_
      refine lv_icmp_ge (tgt := 61) hx hb dX12_ahead_48 (by decide) (fun q9 => ?_) (fun q9 => ?_)
      · have hf := ifp hf q9
        obtain rfl : mm = ex46 := hyR46 _ (Option.some.inj hf).symm
        exact hj61 x0 x2 mm H locs ls hk46 hS (lv_sub hl [0, 2] rfl)
      · have hf := ifn hf q9
        refine lv_aload_n hx hb dX12_ahead_51 rfl (lv_at hl 0 rfl) ?_
        obtain ⟨u0, h0, hf⟩ := bs hf
        obtain ⟨_, hrc⟩ := isO_n h0
        obtain ⟨m10, h1, hf⟩ := bs hf
        refine am_endv hS (am_runV (As := []) X (hml.trans hl.1.symm) hS (cX12_passes_ok (l := l) (E := E) h1) mv_X12_359 hrc rfl ⟨Nat.le_trans (by decide) hR.1, Nat.le_trans (by decide) hR.2⟩ ⟨Nat.zero_le _, Nat.zero_le _⟩ rfl rfl (Nat.le_of_ble_eq_true rfl) dX12_ahead_52) (fun H locs hS => ?_)
        obtain ⟨x3_11, e1⟩ : ∃ z : Int32, z = x3 + 1 := ⟨_, rfl⟩
        have hf := lt1_n e1 hf
        refine lv_iinc (v := x3_11) (lv' := [(3, .int x3_11), (0, .ref x0), (1, .int x1), (2, .int x2)]) hx hb dX12_ahead_55 hl (k := 3) rfl (by rw [e1]; rfl) (by decide) rfl (fun ls hl => ?_)
        refine lv_goto (tgt := 46) hx hb dX12_ahead_58 (by decide) ?_
        exact hyL46 _ (Option.some.inj hf).symm H locs ls hS (lv_sub hl [1, 2, 3, 0] rfl)
    · have hf := ifp hf q6
      refine lv_iconst (v := 0) hx hb dX12_ahead_38 (by decide) ?_
      cases hf
      exact hret _ _ _ _ rfl dX12_ahead_39 hS
  have hj29 : ∀ (x0 : Nat) (x1 : Int32) (x2 : Int32) (s0 : Nat) (mm : Mem) (H : Heap) (locs : List Loc) (ls : Array Slot), fX12_ahead_j29 (eS E) x0 x1 x2 s0 mm = some (r, mm1) → wS E s mm H locs → lv_has ls 4 [(0, .ref x0), (1, .int x1), (2, .int x2)] → W p l e R s m args below meth c H locs 0 0 Q (F0 m 29 ls [.ref s0]) := by
    intro x0 x1 x2 s0 mm H locs ls hf hS hl
    unfold fX12_ahead_j29 at hf
    refine lv_iconst (v := 0) hx hb dX12_ahead_29 (by decide) ?_
    exact hj30 x0 x1 x2 s0 0 mm H locs ls hf hS hl
  intro H locs ls hS hl
  refine lv_aload_n hx hb dX12_ahead_0 rfl (lv_at hl 0 rfl) ?_
  refine lv_iconst (v := 0) hx hb dX12_ahead_1 (by decide) ?_
  obtain ⟨m12, h1, hf⟩ := bs hf
  refine am_pi X hS fp_X12_3 rfl h1 dX12_ahead_2 (fun H locs hS => ?_)
  refine lv_aload_n hx hb dX12_ahead_5 rfl (lv_at hl 0 rfl) ?_
  refine lv_iload_n hx hb dX12_ahead_6 rfl (lv_at hl 1 rfl) ?_
  refine lv_iconst (v := 0) hx hb dX12_ahead_7 (by decide) ?_
  refine lv_bipush (v := 99) hx hb dX12_ahead_8 (by decide) ?_
  obtain ⟨v13, h1, hf⟩ := bs hf
  refine am_endi hS (am_runS (As := [.int x1, .int 0, .int 99]) X (hml.trans hl.1.symm) hS (cX12_within_ok (l := l) (E := E) h1) ms_X12_368 ⟨Nat.le_trans (by decide) hR.1, Nat.le_trans (by decide) hR.2⟩ ⟨Nat.zero_le _, Nat.zero_le _⟩ rfl rfl (Nat.le_of_ble_eq_true rfl) dX12_ahead_10) (fun H locs hS => ?_)
  refine lv_if_eq (tgt := 29) hx hb dX12_ahead_13 (by decide) (fun q14 => ?_) (fun q14 => ?_)
  · have hf := ifp hf q14
    exact hj29 x0 x1 x2 x0 m12 H locs ls hf hS hl
  · have hf := ifn hf q14
    refine lv_iload_n hx hb dX12_ahead_16 rfl (lv_at hl 2 rfl) ?_
    refine lv_iconst (v := 0) hx hb dX12_ahead_17 (by decide) ?_
    refine lv_iconst (v := 1) hx hb dX12_ahead_18 (by decide) ?_
    obtain ⟨v15, h1, hf⟩ := bs hf
    refine am_endi hS (am_runS (As := [.int x2, .int 0, .int 1]) X (hml.trans hl.1.symm) hS (cX12_within_ok (l := l) (E := E) h1) ms_X12_368 ⟨Nat.le_trans (by decide) hR.1, Nat.le_trans (by decide) hR.2⟩ ⟨Nat.zero_le _, Nat.zero_le _⟩ rfl rfl (Nat.le_of_ble_eq_true rfl) dX12_ahead_19) (fun H locs hS => ?_)
    refine lv_if_eq (tgt := 29) hx hb dX12_ahead_22 (by decide) (fun q16 => ?_) (fun q16 => ?_)
    · have hf := ifp hf q16
      exact hj29 x0 x1 x2 x0 m12 H locs ls hf hS hl
    · have hf := ifn hf q16
      refine lv_iconst (v := 1) hx hb dX12_ahead_25 (by decide) ?_
      refine lv_goto (tgt := 30) hx hb dX12_ahead_26 (by decide) ?_
      exact hj30 x0 x1 x2 x0 1 m12 H locs ls hf hS hl
set_option maxRecDepth 100000 in
theorem cX12_ahead_ok {l : Launch} {E : Ev} {x0 : Nat} {x1 : Int32} {x2 : Int32} {mm : Mem} {r : Int32} {mm1 : Mem} (hf : fX12_ahead (eS E) x0 x1 x2 mm = some (r, mm1)) : CtI l yX12_ahead cX12_ahead 4 (some .int) 3 67 E [.ref x0, .int x1, .int x2] mm r mm1 := by
  refine Met.ofW (cc := cX12_ahead) (maxL := 4) (ret := (some .int)) (by decide) rfl ?_
  intro p e s m args below meth c s₁ B hml hv
  obtain ⟨rfl, X, hS, hr, hlocks⟩ := am_in B hv
  refine am_entry (Nat.le_of_ble_eq_true rfl) (fun ls hl => ?_)
  exact wX12_ahead X hml ⟨Nat.le_refl _, Nat.le_refl _⟩ hf (fun pc H locs ls hn hd hS => am_ri X hS hr hn hd hlocks) _ _ ls hS hl
set_option maxHeartbeats 4000000 in
set_option maxRecDepth 100000 in
theorem wX12_spreadOf {p : Program} {l : Launch} {e : Env} {R : Room} {s : State} {m : MethodId} {args : Array Value} {below : List Frame} {meth : Method} {c : Code} {Q : State → Prop} {E : Ev} (X : Cx p s m args c cX12_spreadOf RX12 E) (hml : c.maxLocals = 7) (hR : 1 ≤ R.frames ∧ 22 ≤ R.locals) {x0 : Nat} {x1 : Int32} {mm : Mem} {r : Int32} (hf : fX12_spreadOf (eS E) x0 x1 mm = some r) (hret : ∀ (pc : Nat) (H : Heap) (locs : List Loc) (ls : Array Slot), narrow .int (.int r) = .int r → decode cX12_spreadOf pc = .ok (.ireturn, 1) → wS E s mm H locs → W p l e R s m args below meth c H locs 0 0 Q (F0 m pc ls [.int r])) : ∀ (H : Heap) (locs : List Loc) (ls : Array Slot), wS E s mm H locs → lv_has ls 7 [(0, .ref x0), (1, .int x1)] → W p l e R s m args below meth c H locs 0 0 Q (F0 m 0 ls []) := by
  have hx := X.1
  have hb := X.2.1
  unfold fX12_spreadOf at hf
  have hj97 : ∀ (x2 : Int32) (x3 : Int32) (H : Heap) (locs : List Loc) (ls : Array Slot), fX12_spreadOf_j97 (eS E) x2 x3 mm = some r → wS E s mm H locs → lv_has ls 7 [(2, .int x2), (3, .int x3)] → W p l e R s m args below meth c H locs 0 0 Q (F0 m 97 ls []) := by
    intro x2 x3 H locs ls hf hS hl
    unfold fX12_spreadOf_j97 at hf
    refine lv_iload_n hx hb dX12_spreadOf_97 rfl (lv_at hl 1 rfl) ?_
    refine lv_iload_n hx hb dX12_spreadOf_98 rfl (lv_at hl 0 rfl) ?_
    refine lv_isub hx hb dX12_spreadOf_99 ?_
    cases hf
    exact hret _ _ _ _ rfl dX12_spreadOf_100 hS
  intro H locs ls hS hl
  refine lv_iconst (v := 0) hx hb dX12_spreadOf_0 (by decide) ?_
  refine lv_topi (fun x2_1 e1 => ?_)
  have hf := lt1_n e1 hf
  refine lv_istore_n (lv' := [(2, .int x2_1), (0, .ref x0), (1, .int x1)]) hx hb dX12_spreadOf_1 rfl hl (by decide) rfl (fun ls hl => ?_)
  refine lv_iconst (v := 0) hx hb dX12_spreadOf_2 (by decide) ?_
  refine lv_topi (fun x3_2 e1 => ?_)
  have hf := lt1_n e1 hf
  refine lv_istore_n (lv' := [(3, .int x3_2), (2, .int x2_1), (0, .ref x0), (1, .int x1)]) hx hb dX12_spreadOf_3 rfl hl (by decide) rfl (fun ls hl => ?_)
  refine lv_iconst (v := 0) hx hb dX12_spreadOf_4 (by decide) ?_
  refine lv_topi (fun x4_3 e1 => ?_)
  have hf := lt1_n e1 hf
  refine lv_istore (lv' := [(4, .int x4_3), (3, .int x3_2), (2, .int x2_1), (0, .ref x0), (1, .int x1)]) hx hb dX12_spreadOf_5 hl (by decide) rfl (fun ls hl => ?_)
  obtain ⟨ex7, hl7, hk7⟩ := bs hf
  refine loop_W (P := fun st => ∀ (H : Heap) (locs : List Loc) (ls : Array Slot), wS E s mm H locs → lv_has ls 7 [(0, .ref x0), (1, .int x1), (2, .int st.1), (3, .int st.2.1), (4, .int st.2.2)] → W p l e R s m args below meth c H locs 0 0 Q (F0 m 7 ls [])) (ex := ex7) ?_ FU _ hl7 H locs ls hS (lv_sub hl [3, 4, 2, 1, 0] rfl)
  intro st y7 hf hyL7 hyR7 H locs ls hS hl
  obtain ⟨x2, x3, x4⟩ := st
  have hf : fX12_spreadOf_b7 (eS E) x0 x1 x2 x3 x4 mm = some y7 := hf
  have hS : wS E s mm H locs := hS
  have hl : lv_has ls 7 [(0, .ref x0), (1, .int x1), (2, .int x2), (3, .int x3), (4, .int x4)] := hl
  unfold fX12_spreadOf_b7 at hf
  have hj90 : ∀ (x2 : Int32) (x4 : Int32) (s0 : Int32) (H : Heap) (locs : List Loc) (ls : Array Slot), fX12_spreadOf_j90 (eS E) x0 x1 x2 x4 s0 mm = some y7 → wS E s mm H locs → lv_has ls 7 [(0, .ref x0), (1, .int x1), (2, .int x2), (4, .int x4)] → W p l e R s m args below meth c H locs 0 0 Q (F0 m 90 ls [.int s0]) := by
    intro x2 x4 s0 H locs ls hf hS hl
    unfold fX12_spreadOf_j90 at hf
    refine lv_topi (fun x3_4 e1 => ?_)
    have hf := lt1_n e1 hf
    refine lv_istore_n (lv' := [(3, .int x3_4), (0, .ref x0), (1, .int x1), (2, .int x2), (4, .int x4)]) hx hb dX12_spreadOf_90 rfl hl (by decide) rfl (fun ls hl => ?_)
    obtain ⟨x4_5, e1⟩ : ∃ z : Int32, z = x4 + 1 := ⟨_, rfl⟩
    have hf := lt1_n e1 hf
    refine lv_iinc (v := x4_5) (lv' := [(4, .int x4_5), (3, .int x3_4), (0, .ref x0), (1, .int x1), (2, .int x2)]) hx hb dX12_spreadOf_91 hl (k := 4) rfl (by rw [e1]; rfl) (by decide) rfl (fun ls hl => ?_)
    refine lv_goto (tgt := 7) hx hb dX12_spreadOf_94 (by decide) ?_
    exact hyL7 _ (Option.some.inj hf).symm H locs ls hS (lv_sub hl [2, 3, 4, 1, 0] rfl)
  have hj77 : ∀ (x3 : Int32) (x4 : Int32) (x5 : Int32) (s0 : Int32) (H : Heap) (locs : List Loc) (ls : Array Slot), fX12_spreadOf_j77 (eS E) x0 x1 x3 x4 x5 s0 mm = some y7 → wS E s mm H locs → lv_has ls 7 [(0, .ref x0), (1, .int x1), (3, .int x3), (4, .int x4), (5, .int x5)] → W p l e R s m args below meth c H locs 0 0 Q (F0 m 77 ls [.int s0]) := by
    intro x3 x4 x5 s0 H locs ls hf hS hl
    unfold fX12_spreadOf_j77 at hf
    refine lv_topi (fun x2_6 e1 => ?_)
    have hf := lt1_n e1 hf
    refine lv_istore_n (lv' := [(2, .int x2_6), (0, .ref x0), (1, .int x1), (3, .int x3), (4, .int x4), (5, .int x5)]) hx hb dX12_spreadOf_77 rfl hl (by decide) rfl (fun ls hl => ?_)
    refine lv_iload hx hb dX12_spreadOf_78 (lv_at hl 5 rfl) ?_
    refine lv_iload_n hx hb dX12_spreadOf_80 rfl (lv_at hl 3 rfl) ?_
    refine lv_icmp_le (tgt := 89) hx hb dX12_spreadOf_81 (by decide) (fun q7 => ?_) (fun q7 => ?_)
    · have hf := ifp hf q7
      refine lv_iload_n hx hb dX12_spreadOf_89 rfl (lv_at hl 3 rfl) ?_
      exact hj90 x2_6 x4 x3 H locs ls hf hS (lv_sub hl [1, 2, 0, 4] rfl)
    · have hf := ifn hf q7
      refine lv_iload hx hb dX12_spreadOf_84 (lv_at hl 5 rfl) ?_
      refine lv_goto (tgt := 90) hx hb dX12_spreadOf_86 (by decide) ?_
      exact hj90 x2_6 x4 x5 H locs ls hf hS (lv_sub hl [1, 2, 0, 4] rfl)
  have hj71 : ∀ (x3 : Int32) (x4 : Int32) (x5 : Int32) (H : Heap) (locs : List Loc) (ls : Array Slot), fX12_spreadOf_j71 (eS E) x0 x1 x3 x4 x5 mm = some y7 → wS E s mm H locs → lv_has ls 7 [(0, .ref x0), (1, .int x1), (3, .int x3), (4, .int x4), (5, .int x5)] → W p l e R s m args below meth c H locs 0 0 Q (F0 m 71 ls []) := by
    intro x3 x4 x5 H locs ls hf hS hl
    unfold fX12_spreadOf_j71 at hf
    refine lv_iload hx hb dX12_spreadOf_71 (lv_at hl 4 rfl) ?_
    refine lv_goto (tgt := 77) hx hb dX12_spreadOf_73 (by decide) ?_
    exact hj77 x3 x4 x5 x5 H locs ls hf hS hl
  have hj60 : ∀ (x2 : Int32) (x3 : Int32) (x4 : Int32) (x5 : Int32) (H : Heap) (locs : List Loc) (ls : Array Slot), fX12_spreadOf_j60 (eS E) x0 x1 x2 x3 x4 x5 mm = some y7 → wS E s mm H locs → lv_has ls 7 [(0, .ref x0), (1, .int x1), (2, .int x2), (3, .int x3), (4, .int x4), (5, .int x5)] → W p l e R s m args below meth c H locs 0 0 Q (F0 m 60 ls []) := by
    intro x2 x3 x4 x5 H locs ls hf hS hl
    unfold fX12_spreadOf_j60 at hf
    refine lv_iload hx hb dX12_spreadOf_60 (lv_at hl 4 rfl) ?_
    refine lv_if_eq (tgt := 71) hx hb dX12_spreadOf_62 (by decide) (fun q8 => ?_) (fun q8 => ?_)
    · have hf := ifp hf q8
      exact hj71 x3 x4 x5 H locs ls hf hS (lv_sub hl [0, 1, 3, 4, 5] rfl)
    · have hf := ifn hf q8
      refine lv_iload hx hb dX12_spreadOf_65 (lv_at hl 5 rfl) ?_
      refine lv_iload_n hx hb dX12_spreadOf_67 rfl (lv_at hl 2 rfl) ?_
      refine lv_icmp_ge (tgt := 76) hx hb dX12_spreadOf_68 (by decide) (fun q9 => ?_) (fun q9 => ?_)
      · have hf := ifp hf q9
        refine lv_iload_n hx hb dX12_spreadOf_76 rfl (lv_at hl 2 rfl) ?_
        exact hj77 x3 x4 x5 x2 H locs ls hf hS (lv_sub hl [0, 1, 3, 4, 5] rfl)
      · have hf := ifn hf q9
        exact hj71 x3 x4 x5 H locs ls hf hS (lv_sub hl [0, 1, 3, 4, 5] rfl)
  refine lv_iload hx hb dX12_spreadOf_7 (lv_at hl 4 rfl) ?_
  refine lv_bipush (v := 7) hx hb dX12_spreadOf_9 (by decide) ?_
  refine lv_icmp_ge (tgt := 97) hx hb dX12_spreadOf_11 (by decide) (fun q10 => ?_) (fun q10 => ?_)
  · have hf := ifp hf q10
    obtain rfl : (x2, x3) = ex7 := hyR7 _ (Option.some.inj hf).symm
    exact hj97 x2 x3 H locs ls hk7 hS (lv_sub hl [2, 3] rfl)
  · have hf := ifn hf q10
    refine lv_iconst (v := 0) hx hb dX12_spreadOf_14 (by decide) ?_
    refine lv_topi (fun x5_11 e1 => ?_)
    have hf := lt1_n e1 hf
    refine lv_istore (lv' := [(5, .int x5_11), (0, .ref x0), (1, .int x1), (2, .int x2), (3, .int x3), (4, .int x4)]) hx hb dX12_spreadOf_15 hl (by decide) rfl (fun ls hl => ?_)
    refine lv_iconst (v := 0) hx hb dX12_spreadOf_17 (by decide) ?_
    refine lv_topi (fun x6_12 e1 => ?_)
    have hf := lt1_n e1 hf
    refine lv_istore (lv' := [(6, .int x6_12), (5, .int x5_11), (0, .ref x0), (1, .int x1), (2, .int x2), (3, .int x3), (4, .int x4)]) hx hb dX12_spreadOf_18 hl (by decide) rfl (fun ls hl => ?_)
    obtain ⟨ex20, hl20, hk20⟩ := bs hf
    refine loop_W (P := fun st => ∀ (H : Heap) (locs : List Loc) (ls : Array Slot), wS E s mm H locs → lv_has ls 7 [(0, .ref x0), (1, .int x1), (2, .int x2), (3, .int x3), (4, .int x4), (5, .int st.1), (6, .int st.2)] → W p l e R s m args below meth c H locs 0 0 Q (F0 m 20 ls [])) (ex := ex20) ?_ FU _ hl20 H locs ls hS (lv_sub hl [2, 3, 4, 5, 6, 1, 0] rfl)
    intro st y20 hf hyL20 hyR20 H locs ls hS hl
    obtain ⟨x5, x6⟩ := st
    have hf : fX12_spreadOf_b20 (eS E) x0 x1 x2 x3 x4 x5 x6 mm = some y20 := hf
    have hS : wS E s mm H locs := hS
    have hl : lv_has ls 7 [(0, .ref x0), (1, .int x1), (2, .int x2), (3, .int x3), (4, .int x4), (5, .int x5), (6, .int x6)] := hl
    unfold fX12_spreadOf_b20 at hf
    refine lv_iload hx hb dX12_spreadOf_20 (lv_at hl 6 rfl) ?_
    refine lv_aload_n hx hb dX12_spreadOf_22 rfl (lv_at hl 0 rfl) ?_
    obtain ⟨v13, h1, hf⟩ := bs hf
    refine am_gi X hS fl_X12_150 rfl h1 dX12_spreadOf_23 ?_
    refine lv_icmp_ge (tgt := 60) hx hb dX12_spreadOf_26 (by decide) (fun q14 => ?_) (fun q14 => ?_)
    · have hf := ifp hf q14
      obtain rfl : x5 = ex20 := hyR20 _ (Option.some.inj hf).symm
      exact hj60 x2 x3 x4 x5 H locs ls hk20 hS (lv_sub hl [0, 1, 2, 3, 4, 5] rfl)
    · have hf := ifn hf q14
      refine lv_iload hx hb dX12_spreadOf_29 (lv_at hl 5 rfl) ?_
      refine lv_iload_n hx hb dX12_spreadOf_31 rfl (lv_at hl 1 rfl) ?_
      refine lv_iload hx hb dX12_spreadOf_32 (lv_at hl 6 rfl) ?_
      refine lv_ishr hx hb dX12_spreadOf_34 ?_
      refine lv_iconst (v := 1) hx hb dX12_spreadOf_35 (by decide) ?_
      refine lv_iand hx hb dX12_spreadOf_36 ?_
      refine lv_aload_n hx hb dX12_spreadOf_37 rfl (lv_at hl 0 rfl) ?_
      obtain ⟨a15, h1, hf⟩ := bs hf
      refine am_gr X hS fl_X12_62 rfl h1 dX12_spreadOf_38 ?_
      refine lv_iconst (v := 0) hx hb dX12_spreadOf_41 (by decide) ?_
      refine lv_iload hx hb dX12_spreadOf_42 (lv_at hl 6 rfl) ?_
      refine lv_iload hx hb dX12_spreadOf_44 (lv_at hl 4 rfl) ?_
      obtain ⟨v16, h1, hf⟩ := bs hf
      refine am_endi hS (am_runS (As := [.int 0, .int x6, .int x4]) X (hml.trans hl.1.symm) hS (cX12_in_ok (l := l) (E := E) h1) ms_X12_319 ⟨Nat.le_trans (by decide) hR.1, Nat.le_trans (by decide) hR.2⟩ ⟨Nat.zero_le _, Nat.zero_le _⟩ rfl rfl (Nat.le_of_ble_eq_true rfl) dX12_spreadOf_46) (fun H locs hS => ?_)
      obtain ⟨v17, h1, hf⟩ := bs hf
      refine am_ald X hS h1 dX12_spreadOf_49 ?_
      refine lv_imul hx hb dX12_spreadOf_50 ?_
      refine lv_iadd hx hb dX12_spreadOf_51 ?_
      refine lv_topi (fun x5_18 e1 => ?_)
      have hf := lt1_n e1 hf
      refine lv_istore (lv' := [(5, .int x5_18), (0, .ref x0), (1, .int x1), (2, .int x2), (3, .int x3), (4, .int x4), (6, .int x6)]) hx hb dX12_spreadOf_52 hl (by decide) rfl (fun ls hl => ?_)
      obtain ⟨x6_19, e1⟩ : ∃ z : Int32, z = x6 + 1 := ⟨_, rfl⟩
      have hf := lt1_n e1 hf
      refine lv_iinc (v := x6_19) (lv' := [(6, .int x6_19), (5, .int x5_18), (0, .ref x0), (1, .int x1), (2, .int x2), (3, .int x3), (4, .int x4)]) hx hb dX12_spreadOf_54 hl (k := 6) rfl (by rw [e1]; rfl) (by decide) rfl (fun ls hl => ?_)
      refine lv_goto (tgt := 20) hx hb dX12_spreadOf_57 (by decide) ?_
      exact hyL20 _ (Option.some.inj hf).symm H locs ls hS (lv_sub hl [2, 3, 4, 5, 6, 1, 0] rfl)
set_option maxRecDepth 100000 in
theorem cX12_spreadOf_ok {l : Launch} {E : Ev} {x0 : Nat} {x1 : Int32} {mm : Mem} {r : Int32} (hf : fX12_spreadOf (eS E) x0 x1 mm = some r) : CtI l yX12_spreadOf cX12_spreadOf 7 (some .int) 1 22 E [.ref x0, .int x1] mm r mm := by
  refine Met.ofW (cc := cX12_spreadOf) (maxL := 7) (ret := (some .int)) (by decide) rfl ?_
  intro p e s m args below meth c s₁ B hml hv
  obtain ⟨rfl, X, hS, hr, hlocks⟩ := am_in B hv
  refine am_entry (Nat.le_of_ble_eq_true rfl) (fun ls hl => ?_)
  exact wX12_spreadOf X hml ⟨Nat.le_refl _, Nat.le_refl _⟩ hf (fun pc H locs ls hn hd hS => am_ri X hS hr hn hd hlocks) _ _ ls hS hl
set_option maxHeartbeats 4000000 in
set_option maxRecDepth 100000 in
theorem wX12_withinAll {p : Program} {l : Launch} {e : Env} {R : Room} {s : State} {m : MethodId} {args : Array Value} {below : List Frame} {meth : Method} {c : Code} {Q : State → Prop} {E : Ev} (X : Cx p s m args c cX12_withinAll RX12 E) (hml : c.maxLocals = 4) (hR : 2 ≤ R.frames ∧ 45 ≤ R.locals) {x0 : Nat} {x1 : Int32} {mm : Mem} {r : Int32} (hf : fX12_withinAll (eS E) x0 x1 mm = some r) (hret : ∀ (pc : Nat) (H : Heap) (locs : List Loc) (ls : Array Slot), narrow .int (.int r) = .int r → decode cX12_withinAll pc = .ok (.ireturn, 1) → wS E s mm H locs → W p l e R s m args below meth c H locs 0 0 Q (F0 m pc ls [.int r])) : ∀ (H : Heap) (locs : List Loc) (ls : Array Slot), wS E s mm H locs → lv_has ls 4 [(0, .ref x0), (1, .int x1)] → W p l e R s m args below meth c H locs 0 0 Q (F0 m 0 ls []) := by
  have hx := X.1
  have hb := X.2.1
  unfold fX12_withinAll at hf
  have hj32 : ∀ (x2 : Int32) (H : Heap) (locs : List Loc) (ls : Array Slot), fX12_withinAll_j32 (eS E) x2 mm = some r → wS E s mm H locs → lv_has ls 4 [(2, .int x2)] → W p l e R s m args below meth c H locs 0 0 Q (F0 m 32 ls []) := by
    intro x2 H locs ls hf hS hl
    unfold fX12_withinAll_j32 at hf
    refine lv_iload_n hx hb dX12_withinAll_32 rfl (lv_at hl 0 rfl) ?_
    cases hf
    exact hret _ _ _ _ rfl dX12_withinAll_33 hS
  intro H locs ls hS hl
  refine lv_iconst (v := 0) hx hb dX12_withinAll_0 (by decide) ?_
  refine lv_topi (fun x2_1 e1 => ?_)
  have hf := lt1_n e1 hf
  refine lv_istore_n (lv' := [(2, .int x2_1), (0, .ref x0), (1, .int x1)]) hx hb dX12_withinAll_1 rfl hl (by decide) rfl (fun ls hl => ?_)
  refine lv_iconst (v := 0) hx hb dX12_withinAll_2 (by decide) ?_
  refine lv_topi (fun x3_2 e1 => ?_)
  have hf := lt1_n e1 hf
  refine lv_istore_n (lv' := [(3, .int x3_2), (2, .int x2_1), (0, .ref x0), (1, .int x1)]) hx hb dX12_withinAll_3 rfl hl (by decide) rfl (fun ls hl => ?_)
  obtain ⟨ex4, hl4, hk4⟩ := bs hf
  refine loop_W (P := fun st => ∀ (H : Heap) (locs : List Loc) (ls : Array Slot), wS E s mm H locs → lv_has ls 4 [(0, .ref x0), (1, .int x1), (2, .int st.1), (3, .int st.2)] → W p l e R s m args below meth c H locs 0 0 Q (F0 m 4 ls [])) (ex := ex4) ?_ FU _ hl4 H locs ls hS (lv_sub hl [2, 3, 1, 0] rfl)
  intro st y4 hf hyL4 hyR4 H locs ls hS hl
  obtain ⟨x2, x3⟩ := st
  have hf : fX12_withinAll_b4 (eS E) x0 x1 x2 x3 mm = some y4 := hf
  have hS : wS E s mm H locs := hS
  have hl : lv_has ls 4 [(0, .ref x0), (1, .int x1), (2, .int x2), (3, .int x3)] := hl
  unfold fX12_withinAll_b4 at hf
  refine lv_iload_n hx hb dX12_withinAll_4 rfl (lv_at hl 3 rfl) ?_
  refine lv_aload_n hx hb dX12_withinAll_5 rfl (lv_at hl 0 rfl) ?_
  obtain ⟨v3, h1, hf⟩ := bs hf
  refine am_gi X hS fl_X12_150 rfl h1 dX12_withinAll_6 ?_
  refine lv_icmp_ge (tgt := 32) hx hb dX12_withinAll_9 (by decide) (fun q4 => ?_) (fun q4 => ?_)
  · have hf := ifp hf q4
    obtain rfl : x2 = ex4 := hyR4 _ (Option.some.inj hf).symm
    exact hj32 x2 H locs ls hk4 hS (lv_sub hl [2] rfl)
  · have hf := ifn hf q4
    refine lv_iload_n hx hb dX12_withinAll_12 rfl (lv_at hl 2 rfl) ?_
    refine lv_iload_n hx hb dX12_withinAll_13 rfl (lv_at hl 1 rfl) ?_
    refine lv_iload_n hx hb dX12_withinAll_14 rfl (lv_at hl 3 rfl) ?_
    refine lv_ishr hx hb dX12_withinAll_15 ?_
    refine lv_iconst (v := 1) hx hb dX12_withinAll_16 (by decide) ?_
    refine lv_iand hx hb dX12_withinAll_17 ?_
    refine lv_aload_n hx hb dX12_withinAll_18 rfl (lv_at hl 0 rfl) ?_
    refine lv_iload_n hx hb dX12_withinAll_19 rfl (lv_at hl 3 rfl) ?_
    obtain ⟨u0, h0, hf⟩ := bs hf
    obtain ⟨_, hrc⟩ := isO_n h0
    obtain ⟨v5, h1, hf⟩ := bs hf
    refine am_endi hS (am_runV (As := [.int x3]) X (hml.trans hl.1.symm) hS (cX12_withinOf_ok (l := l) (E := E) h1) mv_X12_328 hrc rfl ⟨Nat.le_trans (by decide) hR.1, Nat.le_trans (by decide) hR.2⟩ ⟨Nat.zero_le _, Nat.zero_le _⟩ rfl rfl (Nat.le_of_ble_eq_true rfl) dX12_withinAll_20) (fun H locs hS => ?_)
    refine lv_imul hx hb dX12_withinAll_23 ?_
    refine lv_iadd hx hb dX12_withinAll_24 ?_
    refine lv_topi (fun x2_6 e1 => ?_)
    have hf := lt1_n e1 hf
    refine lv_istore_n (lv' := [(2, .int x2_6), (0, .ref x0), (1, .int x1), (3, .int x3)]) hx hb dX12_withinAll_25 rfl hl (by decide) rfl (fun ls hl => ?_)
    obtain ⟨x3_7, e1⟩ : ∃ z : Int32, z = x3 + 1 := ⟨_, rfl⟩
    have hf := lt1_n e1 hf
    refine lv_iinc (v := x3_7) (lv' := [(3, .int x3_7), (2, .int x2_6), (0, .ref x0), (1, .int x1)]) hx hb dX12_withinAll_26 hl (k := 3) rfl (by rw [e1]; rfl) (by decide) rfl (fun ls hl => ?_)
    refine lv_goto (tgt := 4) hx hb dX12_withinAll_29 (by decide) ?_
    exact hyL4 _ (Option.some.inj hf).symm H locs ls hS (lv_sub hl [2, 3, 1, 0] rfl)
set_option maxRecDepth 100000 in
theorem cX12_withinAll_ok {l : Launch} {E : Ev} {x0 : Nat} {x1 : Int32} {mm : Mem} {r : Int32} (hf : fX12_withinAll (eS E) x0 x1 mm = some r) : CtI l yX12_withinAll cX12_withinAll 4 (some .int) 2 45 E [.ref x0, .int x1] mm r mm := by
  refine Met.ofW (cc := cX12_withinAll) (maxL := 4) (ret := (some .int)) (by decide) rfl ?_
  intro p e s m args below meth c s₁ B hml hv
  obtain ⟨rfl, X, hS, hr, hlocks⟩ := am_in B hv
  refine am_entry (Nat.le_of_ble_eq_true rfl) (fun ls hl => ?_)
  exact wX12_withinAll X hml ⟨Nat.le_refl _, Nat.le_refl _⟩ hf (fun pc H locs ls hn hd hS => am_ri X hS hr hn hd hlocks) _ _ ls hS hl
set_option maxHeartbeats 4000000 in
set_option maxRecDepth 100000 in
theorem wX12_isSet {p : Program} {l : Launch} {e : Env} {R : Room} {s : State} {m : MethodId} {args : Array Value} {below : List Frame} {meth : Method} {c : Code} {Q : State → Prop} {E : Ev} (X : Cx p s m args c cX12_isSet RX12 E) (hml : c.maxLocals = 2) (hR : 0 ≤ R.frames ∧ 0 ≤ R.locals) {x0 : Nat} {x1 : Int32} {mm : Mem} {r : Int32} (hf : fX12_isSet (eS E) x0 x1 mm = some r) (hret : ∀ (pc : Nat) (H : Heap) (locs : List Loc) (ls : Array Slot), narrow .boolean (.int r) = .int r → decode cX12_isSet pc = .ok (.ireturn, 1) → wS E s mm H locs → W p l e R s m args below meth c H locs 0 0 Q (F0 m pc ls [.int r])) : ∀ (H : Heap) (locs : List Loc) (ls : Array Slot), wS E s mm H locs → lv_has ls 2 [(0, .ref x0), (1, .int x1)] → W p l e R s m args below meth c H locs 0 0 Q (F0 m 0 ls []) := by
  have hx := X.1
  have hb := X.2.1
  unfold fX12_isSet at hf
  have hj19 : ∀ (s0 : Int32) (H : Heap) (locs : List Loc) (ls : Array Slot), fX12_isSet_j19 (eS E) s0 mm = some r → wS E s mm H locs → lv_has ls 2 [] → W p l e R s m args below meth c H locs 0 0 Q (F0 m 19 ls [.int s0]) := by
    intro s0 H locs ls hf hS hl
    unfold fX12_isSet_j19 at hf
    obtain ⟨v1, h1, hf⟩ := bs hf
    obtain ⟨rfl, h2⟩ := ckZ_n h1
    cases hf
    exact hret _ _ _ _ h2 dX12_isSet_19 hS
  have hj18 : ∀ (H : Heap) (locs : List Loc) (ls : Array Slot), fX12_isSet_j18 (eS E) mm = some r → wS E s mm H locs → lv_has ls 2 [] → W p l e R s m args below meth c H locs 0 0 Q (F0 m 18 ls []) := by
    intro H locs ls hf hS hl
    unfold fX12_isSet_j18 at hf
    refine lv_iconst (v := 0) hx hb dX12_isSet_18 (by decide) ?_
    exact hj19 0 H locs ls hf hS hl
  intro H locs ls hS hl
  refine lv_iload_n hx hb dX12_isSet_0 rfl (lv_at hl 1 rfl) ?_
  refine lv_if_lt (tgt := 18) hx hb dX12_isSet_1 (by decide) (fun q2 => ?_) (fun q2 => ?_)
  · have hf := ifp hf q2
    exact hj18  H locs ls hf hS (lv_sub hl [] rfl)
  · have hf := ifn hf q2
    refine lv_iload_n hx hb dX12_isSet_4 rfl (lv_at hl 1 rfl) ?_
    refine lv_iconst (v := 1) hx hb dX12_isSet_5 (by decide) ?_
    refine lv_aload_n hx hb dX12_isSet_6 rfl (lv_at hl 0 rfl) ?_
    obtain ⟨v3, h1, hf⟩ := bs hf
    refine am_gi X hS fl_X12_150 rfl h1 dX12_isSet_7 ?_
    refine lv_ishl hx hb dX12_isSet_10 ?_
    refine lv_icmp_ge (tgt := 18) hx hb dX12_isSet_11 (by decide) (fun q4 => ?_) (fun q4 => ?_)
    · have hf := ifp hf q4
      exact hj18  H locs ls hf hS (lv_sub hl [] rfl)
    · have hf := ifn hf q4
      refine lv_iconst (v := 1) hx hb dX12_isSet_14 (by decide) ?_
      refine lv_goto (tgt := 19) hx hb dX12_isSet_15 (by decide) ?_
      exact hj19 1 H locs ls hf hS (lv_sub hl [] rfl)
set_option maxRecDepth 100000 in
theorem cX12_isSet_ok {l : Launch} {E : Ev} {x0 : Nat} {x1 : Int32} {mm : Mem} {r : Int32} (hf : fX12_isSet (eS E) x0 x1 mm = some r) : CtI l yX12_isSet cX12_isSet 2 (some .boolean) 0 0 E [.ref x0, .int x1] mm r mm := by
  refine Met.ofW (cc := cX12_isSet) (maxL := 2) (ret := (some .boolean)) (by decide) rfl ?_
  intro p e s m args below meth c s₁ B hml hv
  obtain ⟨rfl, X, hS, hr, hlocks⟩ := am_in B hv
  refine am_entry (Nat.le_of_ble_eq_true rfl) (fun ls hl => ?_)
  exact wX12_isSet X hml ⟨Nat.le_refl _, Nat.le_refl _⟩ hf (fun pc H locs ls hn hd hS => am_ri X hS hr hn hd hlocks) _ _ ls hS hl
set_option maxHeartbeats 4000000 in
set_option maxRecDepth 100000 in
theorem wX12_spread {p : Program} {l : Launch} {e : Env} {R : Room} {s : State} {m : MethodId} {args : Array Value} {below : List Frame} {meth : Method} {c : Code} {Q : State → Prop} {E : Ev} (X : Cx p s m args c cX12_spread RX12 E) (hml : c.maxLocals = 2) (hR : 2 ≤ R.frames ∧ 48 ≤ R.locals) {x0 : Nat} {x1 : Int32} {mm : Mem} {r : Int32} {mm1 : Mem} (hf : fX12_spread (eS E) x0 x1 mm = some (r, mm1)) (hret : ∀ (pc : Nat) (H : Heap) (locs : List Loc) (ls : Array Slot), narrow .int (.int r) = .int r → decode cX12_spread pc = .ok (.ireturn, 1) → wS E s mm1 H locs → W p l e R s m args below meth c H locs 0 0 Q (F0 m pc ls [.int r])) : ∀ (H : Heap) (locs : List Loc) (ls : Array Slot), wS E s mm H locs → lv_has ls 2 [(0, .ref x0), (1, .int x1)] → W p l e R s m args below meth c H locs 0 0 Q (F0 m 0 ls []) := by
  have hx := X.1
  have hb := X.2.1
  unfold fX12_spread at hf
  intro H locs ls hS hl
  refine lv_aload_n hx hb dX12_spread_0 rfl (lv_at hl 0 rfl) ?_
  refine lv_iconst (v := 0) hx hb dX12_spread_1 (by decide) ?_
  obtain ⟨m1, h1, hf⟩ := bs hf
  refine am_pi X hS fp_X12_3 rfl h1 dX12_spread_2 (fun H locs hS => ?_)
  refine lv_aload_n hx hb dX12_spread_5 rfl (lv_at hl 0 rfl) ?_
  refine lv_aload_n hx hb dX12_spread_6 rfl (lv_at hl 0 rfl) ?_
  refine lv_iload_n hx hb dX12_spread_7 rfl (lv_at hl 1 rfl) ?_
  obtain ⟨u0, h0, hf⟩ := bs hf
  obtain ⟨_, hrc⟩ := isO_n h0
  obtain ⟨v2, h1, hf⟩ := bs hf
  refine am_endi hS (am_runV (As := [.int x1]) X (hml.trans hl.1.symm) hS (cX12_isSet_ok (l := l) (E := E) h1) mv_X12_395 hrc rfl ⟨Nat.le_trans (by decide) hR.1, Nat.le_trans (by decide) hR.2⟩ ⟨Nat.zero_le _, Nat.zero_le _⟩ rfl rfl (Nat.le_of_ble_eq_true rfl) dX12_spread_8) (fun H locs hS => ?_)
  refine lv_iconst (v := 1) hx hb dX12_spread_11 (by decide) ?_
  refine lv_iconst (v := 1) hx hb dX12_spread_12 (by decide) ?_
  obtain ⟨u0, h0, hf⟩ := bs hf
  obtain ⟨_, hrc⟩ := isO_n h0
  obtain ⟨v3, m4, h1, hf⟩ := bs2 hf
  refine am_endi hS (am_runV (As := [.int v2, .int 1, .int 1]) X (hml.trans hl.1.symm) hS (cX12_may_ok (l := l) (E := E) h1) mv_X12_190 hrc rfl ⟨Nat.le_trans (by decide) hR.1, Nat.le_trans (by decide) hR.2⟩ ⟨Nat.zero_le _, Nat.zero_le _⟩ rfl rfl (Nat.le_of_ble_eq_true rfl) dX12_spread_13) (fun H locs hS => ?_)
  refine lv_if_ne (tgt := 21) hx hb dX12_spread_16 (by decide) (fun q5 => ?_) (fun q5 => ?_)
  · have hf := ifn hf q5
    refine lv_aload_n hx hb dX12_spread_21 rfl (lv_at hl 0 rfl) ?_
    obtain ⟨u0, h0, hf⟩ := bs hf
    obtain ⟨_, hrc⟩ := isO_n h0
    obtain ⟨m6, h1, hf⟩ := bs hf
    refine am_endv hS (am_runV (As := []) X (hml.trans hl.1.symm) hS (cX12_take_ok (l := l) (E := E) h1) mv_X12_301 hrc rfl ⟨Nat.le_trans (by decide) hR.1, Nat.le_trans (by decide) hR.2⟩ ⟨Nat.zero_le _, Nat.zero_le _⟩ rfl rfl (Nat.le_of_ble_eq_true rfl) dX12_spread_22) (fun H locs hS => ?_)
    refine lv_aload_n hx hb dX12_spread_25 rfl (lv_at hl 0 rfl) ?_
    refine lv_iload_n hx hb dX12_spread_26 rfl (lv_at hl 1 rfl) ?_
    obtain ⟨u0, h0, hf⟩ := bs hf
    obtain ⟨_, hrc⟩ := isO_n h0
    obtain ⟨v7, h1, hf⟩ := bs hf
    refine am_endi hS (am_runV (As := [.int x1]) X (hml.trans hl.1.symm) hS (cX12_spreadOf_ok (l := l) (E := E) h1) mv_X12_398 hrc rfl ⟨Nat.le_trans (by decide) hR.1, Nat.le_trans (by decide) hR.2⟩ ⟨Nat.zero_le _, Nat.zero_le _⟩ rfl rfl (Nat.le_of_ble_eq_true rfl) dX12_spread_27) (fun H locs hS => ?_)
    cases hf
    exact hret _ _ _ _ rfl dX12_spread_30 hS
  · have hf := ifp hf q5
    refine lv_iconst (v := 0) hx hb dX12_spread_19 (by decide) ?_
    cases hf
    exact hret _ _ _ _ rfl dX12_spread_20 hS
set_option maxRecDepth 100000 in
theorem cX12_spread_ok {l : Launch} {E : Ev} {x0 : Nat} {x1 : Int32} {mm : Mem} {r : Int32} {mm1 : Mem} (hf : fX12_spread (eS E) x0 x1 mm = some (r, mm1)) : CtI l yX12_spread cX12_spread 2 (some .int) 2 48 E [.ref x0, .int x1] mm r mm1 := by
  refine Met.ofW (cc := cX12_spread) (maxL := 2) (ret := (some .int)) (by decide) rfl ?_
  intro p e s m args below meth c s₁ B hml hv
  obtain ⟨rfl, X, hS, hr, hlocks⟩ := am_in B hv
  refine am_entry (Nat.le_of_ble_eq_true rfl) (fun ls hl => ?_)
  exact wX12_spread X hml ⟨Nat.le_refl _, Nat.le_refl _⟩ hf (fun pc H locs ls hn hd hS => am_ri X hS hr hn hd hlocks) _ _ ls hS hl
set_option maxHeartbeats 4000000 in
set_option maxRecDepth 100000 in
theorem wX12_bow {p : Program} {l : Launch} {e : Env} {R : Room} {s : State} {m : MethodId} {args : Array Value} {below : List Frame} {meth : Method} {c : Code} {Q : State → Prop} {E : Ev} (X : Cx p s m args c cX12_bow RX12 E) (hml : c.maxLocals = 5) (hR : 3 ≤ R.frames ∧ 68 ≤ R.locals) {x0 : Nat} {x1 : Int32} {mm : Mem} {r : Int32} {mm1 : Mem} (hf : fX12_bow (eS E) x0 x1 mm = some (r, mm1)) (hret : ∀ (pc : Nat) (H : Heap) (locs : List Loc) (ls : Array Slot), narrow .int (.int r) = .int r → decode cX12_bow pc = .ok (.ireturn, 1) → wS E s mm1 H locs → W p l e R s m args below meth c H locs 0 0 Q (F0 m pc ls [.int r])) : ∀ (H : Heap) (locs : List Loc) (ls : Array Slot), wS E s mm H locs → lv_has ls 5 [(0, .ref x0), (1, .int x1)] → W p l e R s m args below meth c H locs 0 0 Q (F0 m 0 ls []) := by
  have hx := X.1
  have hb := X.2.1
  unfold fX12_bow at hf
  have hj122 : ∀ (s0 : Int32) (mm : Mem) (H : Heap) (locs : List Loc) (ls : Array Slot), fX12_bow_j122 (eS E) s0 mm = some (r, mm1) → wS E s mm H locs → lv_has ls 5 [] → W p l e R s m args below meth c H locs 0 0 Q (F0 m 122 ls [.int s0]) := by
    intro s0 mm H locs ls hf hS hl
    unfold fX12_bow_j122 at hf
    cases hf
    exact hret _ _ _ _ rfl dX12_bow_122 hS
  have hj113 : ∀ (x2 : Int32) (mm : Mem) (H : Heap) (locs : List Loc) (ls : Array Slot), fX12_bow_j113 (eS E) x2 mm = some (r, mm1) → wS E s mm H locs → lv_has ls 5 [(2, .int x2)] → W p l e R s m args below meth c H locs 0 0 Q (F0 m 113 ls []) := by
    intro x2 mm H locs ls hf hS hl
    unfold fX12_bow_j113 at hf
    refine lv_iload_n hx hb dX12_bow_113 rfl (lv_at hl 0 rfl) ?_
    refine lv_goto (tgt := 122) hx hb dX12_bow_114 (by decide) ?_
    exact hj122 x2 mm H locs ls hf hS (lv_sub hl [] rfl)
  have hj104 : ∀ (x0 : Nat) (x1 : Int32) (x2 : Int32) (mm : Mem) (H : Heap) (locs : List Loc) (ls : Array Slot), fX12_bow_j104 (eS E) x0 x1 x2 mm = some (r, mm1) → wS E s mm H locs → lv_has ls 5 [(0, .ref x0), (1, .int x1), (2, .int x2)] → W p l e R s m args below meth c H locs 0 0 Q (F0 m 104 ls []) := by
    intro x0 x1 x2 mm H locs ls hf hS hl
    unfold fX12_bow_j104 at hf
    refine lv_iload_n hx hb dX12_bow_104 rfl (lv_at hl 1 rfl) ?_
    refine lv_if_eq (tgt := 113) hx hb dX12_bow_105 (by decide) (fun q1 => ?_) (fun q1 => ?_)
    · have hf := ifp hf q1
      exact hj113 x2 mm H locs ls hf hS (lv_sub hl [2] rfl)
    · have hf := ifn hf q1
      refine lv_iload_n hx hb dX12_bow_108 rfl (lv_at hl 2 rfl) ?_
      refine lv_iconst (v := (-1)) hx hb dX12_bow_109 (by decide) ?_
      refine lv_icmp_ne (tgt := 117) hx hb dX12_bow_110 (by decide) (fun q2 => ?_) (fun q2 => ?_)
      · have hf := ifn hf q2
        refine lv_aload_n hx hb dX12_bow_117 rfl (lv_at hl 0 rfl) ?_
        refine lv_iload_n hx hb dX12_bow_118 rfl (lv_at hl 2 rfl) ?_
        obtain ⟨u0, h0, hf⟩ := bs hf
        obtain ⟨_, hrc⟩ := isO_n h0
        obtain ⟨v3, h1, hf⟩ := bs hf
        refine am_endi hS (am_runV (As := [.int x2]) X (hml.trans hl.1.symm) hS (cX12_spreadOf_ok (l := l) (E := E) h1) mv_X12_398 hrc rfl ⟨Nat.le_trans (by decide) hR.1, Nat.le_trans (by decide) hR.2⟩ ⟨Nat.zero_le _, Nat.zero_le _⟩ rfl rfl (Nat.le_of_ble_eq_true rfl) dX12_bow_119) (fun H locs hS => ?_)
        exact hj122 v3 mm H locs ls hf hS (lv_sub hl [] rfl)
      · have hf := ifp hf q2
        exact hj113 x2 mm H locs ls hf hS (lv_sub hl [2] rfl)
  intro H locs ls hS hl
  refine lv_aload_n hx hb dX12_bow_0 rfl (lv_at hl 0 rfl) ?_
  refine lv_iconst (v := 0) hx hb dX12_bow_1 (by decide) ?_
  obtain ⟨m4, h1, hf⟩ := bs hf
  refine am_pi X hS fp_X12_3 rfl h1 dX12_bow_2 (fun H locs hS => ?_)
  refine lv_aload_n hx hb dX12_bow_5 rfl (lv_at hl 0 rfl) ?_
  refine lv_iload_n hx hb dX12_bow_6 rfl (lv_at hl 1 rfl) ?_
  refine lv_iconst (v := 0) hx hb dX12_bow_7 (by decide) ?_
  refine lv_iconst (v := 1) hx hb dX12_bow_8 (by decide) ?_
  obtain ⟨v5, h1, hf⟩ := bs hf
  refine am_endi hS (am_runS (As := [.int x1, .int 0, .int 1]) X (hml.trans hl.1.symm) hS (cX12_within_ok (l := l) (E := E) h1) ms_X12_368 ⟨Nat.le_trans (by decide) hR.1, Nat.le_trans (by decide) hR.2⟩ ⟨Nat.zero_le _, Nat.zero_le _⟩ rfl rfl (Nat.le_of_ble_eq_true rfl) dX12_bow_9) (fun H locs hS => ?_)
  refine lv_iconst (v := 1) hx hb dX12_bow_12 (by decide) ?_
  refine lv_iconst (v := 1) hx hb dX12_bow_13 (by decide) ?_
  obtain ⟨u0, h0, hf⟩ := bs hf
  obtain ⟨_, hrc⟩ := isO_n h0
  obtain ⟨v6, m7, h1, hf⟩ := bs2 hf
  refine am_endi hS (am_runV (As := [.int v5, .int 1, .int 1]) X (hml.trans hl.1.symm) hS (cX12_may_ok (l := l) (E := E) h1) mv_X12_190 hrc rfl ⟨Nat.le_trans (by decide) hR.1, Nat.le_trans (by decide) hR.2⟩ ⟨Nat.zero_le _, Nat.zero_le _⟩ rfl rfl (Nat.le_of_ble_eq_true rfl) dX12_bow_14) (fun H locs hS => ?_)
  refine lv_if_ne (tgt := 22) hx hb dX12_bow_17 (by decide) (fun q8 => ?_) (fun q8 => ?_)
  · have hf := ifn hf q8
    refine lv_aload_n hx hb dX12_bow_22 rfl (lv_at hl 0 rfl) ?_
    obtain ⟨u0, h0, hf⟩ := bs hf
    obtain ⟨_, hrc⟩ := isO_n h0
    obtain ⟨m9, h1, hf⟩ := bs hf
    refine am_endv hS (am_runV (As := []) X (hml.trans hl.1.symm) hS (cX12_take_ok (l := l) (E := E) h1) mv_X12_301 hrc rfl ⟨Nat.le_trans (by decide) hR.1, Nat.le_trans (by decide) hR.2⟩ ⟨Nat.zero_le _, Nat.zero_le _⟩ rfl rfl (Nat.le_of_ble_eq_true rfl) dX12_bow_23) (fun H locs hS => ?_)
    refine lv_iconst (v := (-1)) hx hb dX12_bow_26 (by decide) ?_
    refine lv_topi (fun x2_10 e1 => ?_)
    have hf := lt1_n e1 hf
    refine lv_istore_n (lv' := [(2, .int x2_10), (0, .ref x0), (1, .int x1)]) hx hb dX12_bow_27 rfl hl (by decide) rfl (fun ls hl => ?_)
    refine lv_iconst (v := 3) hx hb dX12_bow_28 (by decide) ?_
    refine lv_topi (fun x3_11 e1 => ?_)
    have hf := lt1_n e1 hf
    refine lv_istore_n (lv' := [(3, .int x3_11), (2, .int x2_10), (0, .ref x0), (1, .int x1)]) hx hb dX12_bow_29 rfl hl (by decide) rfl (fun ls hl => ?_)
    obtain ⟨ex30, hl30, hk30⟩ := bs hf
    refine loop_W (P := fun st => ∀ (H : Heap) (locs : List Loc) (ls : Array Slot), wS E s m9 H locs → lv_has ls 5 [(0, .ref x0), (1, .int x1), (2, .int st.1), (3, .int st.2)] → W p l e R s m args below meth c H locs 0 0 Q (F0 m 30 ls [])) (ex := ex30) ?_ FU _ hl30 H locs ls hS (lv_sub hl [2, 3, 1, 0] rfl)
    intro st y30 hf hyL30 hyR30 H locs ls hS hl
    obtain ⟨x2, x3⟩ := st
    obtain ⟨mm, rfl⟩ : ∃ z, z = m9 := ⟨_, rfl⟩
    have hf : fX12_bow_b30 (eS E) x0 x1 x2 x3 mm = some y30 := hf
    have hS : wS E s mm H locs := hS
    have hl : lv_has ls 5 [(0, .ref x0), (1, .int x1), (2, .int x2), (3, .int x3)] := hl
    unfold fX12_bow_b30 at hf
    have hj98 : ∀ (x2 : Int32) (x3 : Int32) (H : Heap) (locs : List Loc) (ls : Array Slot), fX12_bow_j98 (eS E) x0 x1 x2 x3 mm = some y30 → wS E s mm H locs → lv_has ls 5 [(0, .ref x0), (1, .int x1), (2, .int x2), (3, .int x3)] → W p l e R s m args below meth c H locs 0 0 Q (F0 m 98 ls []) := by
      intro x2 x3 H locs ls hf hS hl
      unfold fX12_bow_j98 at hf
      obtain ⟨x3_12, e1⟩ : ∃ z : Int32, z = x3 + 1 := ⟨_, rfl⟩
      have hf := lt1_n e1 hf
      refine lv_iinc (v := x3_12) (lv' := [(3, .int x3_12), (0, .ref x0), (1, .int x1), (2, .int x2)]) hx hb dX12_bow_98 hl (k := 3) rfl (by rw [e1]; rfl) (by decide) rfl (fun ls hl => ?_)
      refine lv_goto (tgt := 30) hx hb dX12_bow_101 (by decide) ?_
      exact hyL30 _ (Option.some.inj hf).symm H locs ls hS (lv_sub hl [1, 2, 3, 0] rfl)
    have hj96 : ∀ (x3 : Int32) (H : Heap) (locs : List Loc) (ls : Array Slot), fX12_bow_j96 (eS E) x0 x1 x3 mm = some y30 → wS E s mm H locs → lv_has ls 5 [(0, .ref x0), (1, .int x1), (3, .int x3)] → W p l e R s m args below meth c H locs 0 0 Q (F0 m 96 ls []) := by
      intro x3 H locs ls hf hS hl
      unfold fX12_bow_j96 at hf
      refine lv_iload_n hx hb dX12_bow_96 rfl (lv_at hl 2 rfl) ?_
      refine lv_topi (fun x2_13 e1 => ?_)
      have hf := lt1_n e1 hf
      refine lv_istore_n (lv' := [(2, .int x2_13), (0, .ref x0), (1, .int x1), (3, .int x3)]) hx hb dX12_bow_97 rfl hl (by decide) rfl (fun ls hl => ?_)
      exact hj98 x2_13 x3 H locs ls hf hS (lv_sub hl [1, 2, 0, 3] rfl)
    have hj71 : ∀ (x2 : Int32) (x3 : Int32) (s0 : Int32) (H : Heap) (locs : List Loc) (ls : Array Slot), fX12_bow_j71 (eS E) x0 x1 x2 x3 s0 mm = some y30 → wS E s mm H locs → lv_has ls 5 [(0, .ref x0), (1, .int x1), (2, .int x2), (3, .int x3)] → W p l e R s m args below meth c H locs 0 0 Q (F0 m 71 ls [.int s0]) := by
      intro x2 x3 s0 H locs ls hf hS hl
      unfold fX12_bow_j71 at hf
      refine lv_topi (fun x4_14 e1 => ?_)
      have hf := lt1_n e1 hf
      refine lv_istore (lv' := [(4, .int x4_14), (0, .ref x0), (1, .int x1), (2, .int x2), (3, .int x3)]) hx hb dX12_bow_71 hl (by decide) rfl (fun ls hl => ?_)
      refine lv_iload hx hb dX12_bow_73 (lv_at hl 0 rfl) ?_
      refine lv_if_lt (tgt := 96) hx hb dX12_bow_75 (by decide) (fun q15 => ?_) (fun q15 => ?_)
      · have hf := ifp hf q15
        exact hj96 x3 H locs ls hf hS (lv_sub hl [1, 2, 4] rfl)
      · have hf := ifn hf q15
        refine lv_iload hx hb dX12_bow_78 (lv_at hl 0 rfl) ?_
        refine lv_if_ne (tgt := 98) hx hb dX12_bow_80 (by decide) (fun q16 => ?_) (fun q16 => ?_)
        · have hf := ifn hf q16
          exact hj98 x2 x3 H locs ls hf hS (lv_sub hl [1, 2, 3, 4] rfl)
        · have hf := ifp hf q16
          refine lv_aload_n hx hb dX12_bow_83 rfl (lv_at hl 1 rfl) ?_
          refine lv_iload_n hx hb dX12_bow_84 rfl (lv_at hl 4 rfl) ?_
          obtain ⟨u0, h0, hf⟩ := bs hf
          obtain ⟨_, hrc⟩ := isO_n h0
          obtain ⟨v17, h1, hf⟩ := bs hf
          refine am_endi hS (am_runV (As := [.int x3]) X (hml.trans hl.1.symm) hS (cX12_withinAll_ok (l := l) (E := E) h1) mv_X12_401 hrc rfl ⟨Nat.le_trans (by decide) hR.1, Nat.le_trans (by decide) hR.2⟩ ⟨Nat.zero_le _, Nat.zero_le _⟩ rfl rfl (Nat.le_of_ble_eq_true rfl) dX12_bow_85) (fun H locs hS => ?_)
          refine lv_aload_n hx hb dX12_bow_88 rfl (lv_at hl 1 rfl) ?_
          refine lv_iload_n hx hb dX12_bow_89 rfl (lv_at hl 3 rfl) ?_
          obtain ⟨u0, h0, hf⟩ := bs hf
          obtain ⟨_, hrc⟩ := isO_n h0
          obtain ⟨v18, h1, hf⟩ := bs hf
          refine am_endi hS (am_runV (As := [.int x2]) X (hml.trans hl.1.symm) hS (cX12_withinAll_ok (l := l) (E := E) h1) mv_X12_401 hrc rfl ⟨Nat.le_trans (by decide) hR.1, Nat.le_trans (by decide) hR.2⟩ ⟨Nat.zero_le _, Nat.zero_le _⟩ rfl rfl (Nat.le_of_ble_eq_true rfl) dX12_bow_90) (fun H locs hS => ?_)
          refine lv_icmp_le (tgt := 98) hx hb dX12_bow_93 (by decide) (fun q19 => ?_) (fun q19 => ?_)
          · have hf := ifp hf q19
            exact hj98 x2 x3 H locs ls hf hS (lv_sub hl [1, 2, 3, 4] rfl)
          · have hf := ifn hf q19
            exact hj96 x3 H locs ls hf hS (lv_sub hl [1, 2, 4] rfl)
    refine lv_iload_n hx hb dX12_bow_30 rfl (lv_at hl 3 rfl) ?_
    refine lv_iconst (v := 1) hx hb dX12_bow_31 (by decide) ?_
    refine lv_aload_n hx hb dX12_bow_32 rfl (lv_at hl 0 rfl) ?_
    obtain ⟨v20, h1, hf⟩ := bs hf
    refine am_gi X hS fl_X12_150 rfl h1 dX12_bow_33 ?_
    refine lv_ishl hx hb dX12_bow_36 ?_
    refine lv_icmp_ge (tgt := 104) hx hb dX12_bow_37 (by decide) (fun q21 => ?_) (fun q21 => ?_)
    · have hf := ifp hf q21
      obtain rfl : x2 = ex30 := hyR30 _ (Option.some.inj hf).symm
      exact hj104 x0 x1 x2 mm H locs ls hk30 hS (lv_sub hl [0, 1, 2] rfl)
    · have hf := ifn hf q21
      refine lv_iload_n hx hb dX12_bow_40 rfl (lv_at hl 3 rfl) ?_
      refine lv_iload_n hx hb dX12_bow_41 rfl (lv_at hl 3 rfl) ?_
      refine lv_iconst (v := 1) hx hb dX12_bow_42 (by decide) ?_
      refine lv_isub hx hb dX12_bow_43 ?_
      refine lv_iand hx hb dX12_bow_44 ?_
      refine lv_if_ne (tgt := 51) hx hb dX12_bow_45 (by decide) (fun q22 => ?_) (fun q22 => ?_)
      · have hf := ifn hf q22
        refine lv_iload_n hx hb dX12_bow_51 rfl (lv_at hl 2 rfl) ?_
        refine lv_iconst (v := (-1)) hx hb dX12_bow_52 (by decide) ?_
        refine lv_icmp_ne (tgt := 60) hx hb dX12_bow_53 (by decide) (fun q23 => ?_) (fun q23 => ?_)
        · have hf := ifn hf q23
          refine lv_aload_n hx hb dX12_bow_60 rfl (lv_at hl 0 rfl) ?_
          refine lv_iload_n hx hb dX12_bow_61 rfl (lv_at hl 3 rfl) ?_
          obtain ⟨u0, h0, hf⟩ := bs hf
          obtain ⟨_, hrc⟩ := isO_n h0
          obtain ⟨v24, h1, hf⟩ := bs hf
          refine am_endi hS (am_runV (As := [.int x3]) X (hml.trans hl.1.symm) hS (cX12_spreadOf_ok (l := l) (E := E) h1) mv_X12_398 hrc rfl ⟨Nat.le_trans (by decide) hR.1, Nat.le_trans (by decide) hR.2⟩ ⟨Nat.zero_le _, Nat.zero_le _⟩ rfl rfl (Nat.le_of_ble_eq_true rfl) dX12_bow_62) (fun H locs hS => ?_)
          refine lv_aload_n hx hb dX12_bow_65 rfl (lv_at hl 0 rfl) ?_
          refine lv_iload_n hx hb dX12_bow_66 rfl (lv_at hl 2 rfl) ?_
          obtain ⟨u0, h0, hf⟩ := bs hf
          obtain ⟨_, hrc⟩ := isO_n h0
          obtain ⟨v25, h1, hf⟩ := bs hf
          refine am_endi hS (am_runV (As := [.int x2]) X (hml.trans hl.1.symm) hS (cX12_spreadOf_ok (l := l) (E := E) h1) mv_X12_398 hrc rfl ⟨Nat.le_trans (by decide) hR.1, Nat.le_trans (by decide) hR.2⟩ ⟨Nat.zero_le _, Nat.zero_le _⟩ rfl rfl (Nat.le_of_ble_eq_true rfl) dX12_bow_67) (fun H locs hS => ?_)
          refine lv_isub hx hb dX12_bow_70 ?_
          exact hj71 x2 x3 (v24 - v25) H locs ls hf hS hl
        · have hf := ifp hf q23
          refine lv_iconst (v := (-1)) hx hb dX12_bow_56 (by decide) ?_
          refine lv_goto (tgt := 71) hx hb dX12_bow_57 (by decide) ?_
          exact hj71 x2 x3 (-1) H locs ls hf hS hl
      · have hf := ifp hf q22
        refine lv_goto (tgt := 98) hx hb dX12_bow_48 (by decide) ?_
        exact hj98 x2 x3 H locs ls hf hS hl
  · have hf := ifp hf q8
    refine lv_iconst (v := 0) hx hb dX12_bow_20 (by decide) ?_
    cases hf
    exact hret _ _ _ _ rfl dX12_bow_21 hS
set_option maxRecDepth 100000 in
theorem cX12_bow_ok {l : Launch} {E : Ev} {x0 : Nat} {x1 : Int32} {mm : Mem} {r : Int32} {mm1 : Mem} (hf : fX12_bow (eS E) x0 x1 mm = some (r, mm1)) : CtI l yX12_bow cX12_bow 5 (some .int) 3 68 E [.ref x0, .int x1] mm r mm1 := by
  refine Met.ofW (cc := cX12_bow) (maxL := 5) (ret := (some .int)) (by decide) rfl ?_
  intro p e s m args below meth c s₁ B hml hv
  obtain ⟨rfl, X, hS, hr, hlocks⟩ := am_in B hv
  refine am_entry (Nat.le_of_ble_eq_true rfl) (fun ls hl => ?_)
  exact wX12_bow X hml ⟨Nat.le_refl _, Nat.le_refl _⟩ hf (fun pc H locs ls hn hd hS => am_ri X hS hr hn hd hlocks) _ _ ls hS hl
set_option maxHeartbeats 4000000 in
set_option maxRecDepth 100000 in
theorem wX12_ones {p : Program} {l : Launch} {e : Env} {R : Room} {s : State} {m : MethodId} {args : Array Value} {below : List Frame} {meth : Method} {c : Code} {Q : State → Prop} {E : Ev} (X : Cx p s m args c cX12_ones RX12 E) (hml : c.maxLocals = 3) (hR : 0 ≤ R.frames ∧ 0 ≤ R.locals) {x0 : Int32} {mm : Mem} {r : Int32} (hf : fX12_ones x0 = some r) (hret : ∀ (pc : Nat) (H : Heap) (locs : List Loc) (ls : Array Slot), narrow .int (.int r) = .int r → decode cX12_ones pc = .ok (.ireturn, 1) → wS E s mm H locs → W p l e R s m args below meth c H locs 0 0 Q (F0 m pc ls [.int r])) : ∀ (H : Heap) (locs : List Loc) (ls : Array Slot), wS E s mm H locs → lv_has ls 3 [(0, .int x0)] → W p l e R s m args below meth c H locs 0 0 Q (F0 m 0 ls []) := by
  have hx := X.1
  have hb := X.2.1
  unfold fX12_ones at hf
  have hj24 : ∀ (x1 : Int32) (H : Heap) (locs : List Loc) (ls : Array Slot), fX12_ones_j24 x1 = some r → wS E s mm H locs → lv_has ls 3 [(1, .int x1)] → W p l e R s m args below meth c H locs 0 0 Q (F0 m 24 ls []) := by
    intro x1 H locs ls hf hS hl
    unfold fX12_ones_j24 at hf
    refine lv_iload_n hx hb dX12_ones_24 rfl (lv_at hl 0 rfl) ?_
    cases hf
    exact hret _ _ _ _ rfl dX12_ones_25 hS
  intro H locs ls hS hl
  refine lv_iconst (v := 0) hx hb dX12_ones_0 (by decide) ?_
  refine lv_topi (fun x1_1 e1 => ?_)
  have hf := lt1_n e1 hf
  refine lv_istore_n (lv' := [(1, .int x1_1), (0, .int x0)]) hx hb dX12_ones_1 rfl hl (by decide) rfl (fun ls hl => ?_)
  refine lv_iconst (v := 0) hx hb dX12_ones_2 (by decide) ?_
  refine lv_topi (fun x2_2 e1 => ?_)
  have hf := lt1_n e1 hf
  refine lv_istore_n (lv' := [(2, .int x2_2), (1, .int x1_1), (0, .int x0)]) hx hb dX12_ones_3 rfl hl (by decide) rfl (fun ls hl => ?_)
  obtain ⟨ex4, hl4, hk4⟩ := bs hf
  refine loop_W (P := fun st => ∀ (H : Heap) (locs : List Loc) (ls : Array Slot), wS E s mm H locs → lv_has ls 3 [(0, .int x0), (1, .int st.1), (2, .int st.2)] → W p l e R s m args below meth c H locs 0 0 Q (F0 m 4 ls [])) (ex := ex4) ?_ FU _ hl4 H locs ls hS (lv_sub hl [2, 1, 0] rfl)
  intro st y4 hf hyL4 hyR4 H locs ls hS hl
  obtain ⟨x1, x2⟩ := st
  have hf : fX12_ones_b4 x0 x1 x2 = some y4 := hf
  have hS : wS E s mm H locs := hS
  have hl : lv_has ls 3 [(0, .int x0), (1, .int x1), (2, .int x2)] := hl
  unfold fX12_ones_b4 at hf
  refine lv_iload_n hx hb dX12_ones_4 rfl (lv_at hl 2 rfl) ?_
  refine lv_bipush (v := 8) hx hb dX12_ones_5 (by decide) ?_
  refine lv_icmp_ge (tgt := 24) hx hb dX12_ones_7 (by decide) (fun q3 => ?_) (fun q3 => ?_)
  · have hf := ifp hf q3
    obtain rfl : x1 = ex4 := hyR4 _ (Option.some.inj hf).symm
    exact hj24 x1 H locs ls hk4 hS (lv_sub hl [1] rfl)
  · have hf := ifn hf q3
    refine lv_iload_n hx hb dX12_ones_10 rfl (lv_at hl 1 rfl) ?_
    refine lv_iload_n hx hb dX12_ones_11 rfl (lv_at hl 0 rfl) ?_
    refine lv_iload_n hx hb dX12_ones_12 rfl (lv_at hl 2 rfl) ?_
    refine lv_ishr hx hb dX12_ones_13 ?_
    refine lv_iconst (v := 1) hx hb dX12_ones_14 (by decide) ?_
    refine lv_iand hx hb dX12_ones_15 ?_
    refine lv_iadd hx hb dX12_ones_16 ?_
    refine lv_topi (fun x1_4 e1 => ?_)
    have hf := lt1_n e1 hf
    refine lv_istore_n (lv' := [(1, .int x1_4), (0, .int x0), (2, .int x2)]) hx hb dX12_ones_17 rfl hl (by decide) rfl (fun ls hl => ?_)
    obtain ⟨x2_5, e1⟩ : ∃ z : Int32, z = x2 + 1 := ⟨_, rfl⟩
    have hf := lt1_n e1 hf
    refine lv_iinc (v := x2_5) (lv' := [(2, .int x2_5), (1, .int x1_4), (0, .int x0)]) hx hb dX12_ones_18 hl (k := 2) rfl (by rw [e1]; rfl) (by decide) rfl (fun ls hl => ?_)
    refine lv_goto (tgt := 4) hx hb dX12_ones_21 (by decide) ?_
    exact hyL4 _ (Option.some.inj hf).symm H locs ls hS (lv_sub hl [2, 1, 0] rfl)
set_option maxRecDepth 100000 in
theorem cX12_ones_ok {l : Launch} {E : Ev} {x0 : Int32} {mm : Mem} {r : Int32} (hf : fX12_ones x0 = some r) : CtI l yX12_ones cX12_ones 3 (some .int) 0 0 E [.int x0] mm r mm := by
  refine Met.ofW (cc := cX12_ones) (maxL := 3) (ret := (some .int)) (by decide) rfl ?_
  intro p e s m args below meth c s₁ B hml hv
  obtain ⟨rfl, X, hS, hr, hlocks⟩ := am_in B hv
  refine am_entry (Nat.le_of_ble_eq_true rfl) (fun ls hl => ?_)
  exact wX12_ones X hml ⟨Nat.le_refl _, Nat.le_refl _⟩ hf (fun pc H locs ls hn hd hS => am_ri X hS hr hn hd hlocks) _ _ ls hS hl
set_option maxHeartbeats 4000000 in
set_option maxRecDepth 100000 in
theorem wX12_through {p : Program} {l : Launch} {e : Env} {R : Room} {s : State} {m : MethodId} {args : Array Value} {below : List Frame} {meth : Method} {c : Code} {Q : State → Prop} {E : Ev} (X : Cx p s m args c cX12_through RX12 E) (hml : c.maxLocals = 9) (hR : 5 ≤ R.frames ∧ 118 ≤ R.locals) {x0 : Nat} {x1 : Int32} {x2 : Int32} {x3 : Int32} {mm : Mem} {r : Int32} {mm1 : Mem} (hf : fX12_through (eS E) x0 x1 x2 x3 mm = some (r, mm1)) (hret : ∀ (pc : Nat) (H : Heap) (locs : List Loc) (ls : Array Slot), narrow .int (.int r) = .int r → decode cX12_through pc = .ok (.ireturn, 1) → wS E s mm1 H locs → W p l e R s m args below meth c H locs 0 0 Q (F0 m pc ls [.int r])) : ∀ (H : Heap) (locs : List Loc) (ls : Array Slot), wS E s mm H locs → lv_has ls 9 [(0, .ref x0), (1, .int x1), (2, .int x2), (3, .int x3)] → W p l e R s m args below meth c H locs 0 0 Q (F0 m 0 ls []) := by
  have hx := X.1
  have hb := X.2.1
  unfold fX12_through at hf
  have hj49 : ∀ (mm : Mem) (H : Heap) (locs : List Loc) (ls : Array Slot), fX12_through_j49 (eS E) mm = some (r, mm1) → wS E s mm H locs → lv_has ls 9 [] → W p l e R s m args below meth c H locs 0 0 Q (F0 m 49 ls []) := by
    intro mm H locs ls hf hS hl
    unfold fX12_through_j49 at hf
    refine lv_iconst (v := 0) hx hb dX12_through_49 (by decide) ?_
    cases hf
    exact hret _ _ _ _ rfl dX12_through_50 hS
  have hj198 : ∀ (x4 : Int32) (mm : Mem) (H : Heap) (locs : List Loc) (ls : Array Slot), fX12_through_j198 (eS E) x4 mm = some (r, mm1) → wS E s mm H locs → lv_has ls 9 [(4, .int x4)] → W p l e R s m args below meth c H locs 0 0 Q (F0 m 198 ls []) := by
    intro x4 mm H locs ls hf hS hl
    unfold fX12_through_j198 at hf
    refine lv_iload hx hb dX12_through_198 (lv_at hl 0 rfl) ?_
    cases hf
    exact hret _ _ _ _ rfl dX12_through_200 hS
  have hj41 : ∀ (x0 : Nat) (x1 : Int32) (x2 : Int32) (x3 : Int32) (s0 : Nat) (s1 : Int32) (mm : Mem) (H : Heap) (locs : List Loc) (ls : Array Slot), fX12_through_j41 (eS E) x0 x1 x2 x3 s0 s1 mm = some (r, mm1) → wS E s mm H locs → lv_has ls 9 [(0, .ref x0), (1, .int x1), (2, .int x2), (3, .int x3)] → W p l e R s m args below meth c H locs 0 0 Q (F0 m 41 ls [.int s1, .ref s0]) := by
    intro x0 x1 x2 x3 s0 s1 mm H locs ls hf hS hl
    unfold fX12_through_j41 at hf
    refine lv_iconst (v := 2) hx hb dX12_through_41 (by decide) ?_
    refine lv_iconst (v := 1) hx hb dX12_through_42 (by decide) ?_
    obtain ⟨u0, h0, hf⟩ := bs hf
    obtain ⟨_, hrc⟩ := isO_n h0
    obtain ⟨v1, m2, h1, hf⟩ := bs2 hf
    refine am_endi hS (am_runV (As := [.int s1, .int 2, .int 1]) X (hml.trans hl.1.symm) hS (cX12_may_ok (l := l) (E := E) h1) mv_X12_190 hrc rfl ⟨Nat.le_trans (by decide) hR.1, Nat.le_trans (by decide) hR.2⟩ ⟨Nat.zero_le _, Nat.zero_le _⟩ rfl rfl (Nat.le_of_ble_eq_true rfl) dX12_through_43) (fun H locs hS => ?_)
    refine lv_if_ne (tgt := 51) hx hb dX12_through_46 (by decide) (fun q3 => ?_) (fun q3 => ?_)
    · have hf := ifn hf q3
      refine lv_aload_n hx hb dX12_through_51 rfl (lv_at hl 0 rfl) ?_
      obtain ⟨u0, h0, hf⟩ := bs hf
      obtain ⟨_, hrc⟩ := isO_n h0
      obtain ⟨m4, h1, hf⟩ := bs hf
      refine am_endv hS (am_runV (As := []) X (hml.trans hl.1.symm) hS (cX12_take_ok (l := l) (E := E) h1) mv_X12_301 hrc rfl ⟨Nat.le_trans (by decide) hR.1, Nat.le_trans (by decide) hR.2⟩ ⟨Nat.zero_le _, Nat.zero_le _⟩ rfl rfl (Nat.le_of_ble_eq_true rfl) dX12_through_52) (fun H locs hS => ?_)
      refine lv_iconst (v := (-1)) hx hb dX12_through_55 (by decide) ?_
      refine lv_topi (fun x4_5 e1 => ?_)
      have hf := lt1_n e1 hf
      refine lv_istore (lv' := [(4, .int x4_5), (0, .ref x0), (1, .int x1), (2, .int x2), (3, .int x3)]) hx hb dX12_through_56 hl (by decide) rfl (fun ls hl => ?_)
      refine lv_iconst (v := 0) hx hb dX12_through_58 (by decide) ?_
      refine lv_topi (fun x5_6 e1 => ?_)
      have hf := lt1_n e1 hf
      refine lv_istore (lv' := [(5, .int x5_6), (4, .int x4_5), (0, .ref x0), (1, .int x1), (2, .int x2), (3, .int x3)]) hx hb dX12_through_59 hl (by decide) rfl (fun ls hl => ?_)
      obtain ⟨ex61, hl61, hk61⟩ := bs hf
      refine loop_W (P := fun st => ∀ (H : Heap) (locs : List Loc) (ls : Array Slot), wS E s st.2.2 H locs → lv_has ls 9 [(0, .ref x0), (1, .int x1), (2, .int x2), (3, .int x3), (4, .int st.1), (5, .int st.2.1)] → W p l e R s m args below meth c H locs 0 0 Q (F0 m 61 ls [])) (ex := ex61) ?_ FU _ hl61 H locs ls hS (lv_sub hl [2, 3, 4, 5, 1, 0] rfl)
      intro st y61 hf hyL61 hyR61 H locs ls hS hl
      obtain ⟨x4, x5, mm⟩ := st
      have hf : fX12_through_b61 (eS E) x0 x1 x2 x3 x4 x5 mm = some y61 := hf
      have hS : wS E s mm H locs := hS
      have hl : lv_has ls 9 [(0, .ref x0), (1, .int x1), (2, .int x2), (3, .int x3), (4, .int x4), (5, .int x5)] := hl
      unfold fX12_through_b61 at hf
      have hj192 : ∀ (x4 : Int32) (x5 : Int32) (mm : Mem) (H : Heap) (locs : List Loc) (ls : Array Slot), fX12_through_j192 (eS E) x0 x1 x2 x3 x4 x5 mm = some y61 → wS E s mm H locs → lv_has ls 9 [(0, .ref x0), (1, .int x1), (2, .int x2), (3, .int x3), (4, .int x4), (5, .int x5)] → W p l e R s m args below meth c H locs 0 0 Q (F0 m 192 ls []) := by
        intro x4 x5 mm H locs ls hf hS hl
        unfold fX12_through_j192 at hf
        obtain ⟨x5_7, e1⟩ : ∃ z : Int32, z = x5 + 1 := ⟨_, rfl⟩
        have hf := lt1_n e1 hf
        refine lv_iinc (v := x5_7) (lv' := [(5, .int x5_7), (0, .ref x0), (1, .int x1), (2, .int x2), (3, .int x3), (4, .int x4)]) hx hb dX12_through_192 hl (k := 5) rfl (by rw [e1]; rfl) (by decide) rfl (fun ls hl => ?_)
        refine lv_goto (tgt := 61) hx hb dX12_through_195 (by decide) ?_
        exact hyL61 _ (Option.some.inj hf).symm H locs ls hS (lv_sub hl [1, 2, 3, 4, 5, 0] rfl)
      have hj177 : ∀ (x4 : Int32) (x5 : Int32) (x6 : Int32) (x7 : Int32) (mm : Mem) (H : Heap) (locs : List Loc) (ls : Array Slot), fX12_through_j177 (eS E) x0 x1 x2 x3 x4 x5 x6 x7 mm = some y61 → wS E s mm H locs → lv_has ls 9 [(0, .ref x0), (1, .int x1), (2, .int x2), (3, .int x3), (4, .int x4), (5, .int x5), (6, .int x6), (7, .int x7)] → W p l e R s m args below meth c H locs 0 0 Q (F0 m 177 ls []) := by
        intro x4 x5 x6 x7 mm H locs ls hf hS hl
        unfold fX12_through_j177 at hf
        refine lv_iload hx hb dX12_through_177 (lv_at hl 7 rfl) ?_
        refine lv_if_eq (tgt := 192) hx hb dX12_through_179 (by decide) (fun q8 => ?_) (fun q8 => ?_)
        · have hf := ifp hf q8
          exact hj192 x4 x5 mm H locs ls hf hS (lv_sub hl [0, 1, 2, 3, 4, 5] rfl)
        · have hf := ifn hf q8
          refine lv_iload hx hb dX12_through_182 (lv_at hl 6 rfl) ?_
          refine lv_iload_n hx hb dX12_through_184 rfl (lv_at hl 3 rfl) ?_
          refine lv_icmp_ne (tgt := 192) hx hb dX12_through_185 (by decide) (fun q9 => ?_) (fun q9 => ?_)
          · have hf := ifn hf q9
            exact hj192 x4 x5 mm H locs ls hf hS (lv_sub hl [0, 1, 2, 3, 4, 5] rfl)
          · have hf := ifp hf q9
            refine lv_iload hx hb dX12_through_188 (lv_at hl 5 rfl) ?_
            refine lv_topi (fun x4_10 e1 => ?_)
            have hf := lt1_n e1 hf
            refine lv_istore (lv' := [(4, .int x4_10), (0, .ref x0), (1, .int x1), (2, .int x2), (3, .int x3), (5, .int x5), (6, .int x6), (7, .int x7)]) hx hb dX12_through_190 hl (by decide) rfl (fun ls hl => ?_)
            exact hj192 x4_10 x5 mm H locs ls hf hS (lv_sub hl [1, 2, 3, 4, 0, 5] rfl)
      have hj99 : ∀ (x4 : Int32) (x5 : Int32) (x6 : Int32) (s0 : Int32) (mm : Mem) (H : Heap) (locs : List Loc) (ls : Array Slot), fX12_through_j99 (eS E) x0 x1 x2 x3 x4 x5 x6 s0 mm = some y61 → wS E s mm H locs → lv_has ls 9 [(0, .ref x0), (1, .int x1), (2, .int x2), (3, .int x3), (4, .int x4), (5, .int x5), (6, .int x6)] → W p l e R s m args below meth c H locs 0 0 Q (F0 m 99 ls [.int s0]) := by
        intro x4 x5 x6 s0 mm H locs ls hf hS hl
        unfold fX12_through_j99 at hf
        refine lv_topi (fun x7_11 e1 => ?_)
        have hf := lt1_n e1 hf
        refine lv_istore (lv' := [(7, .int x7_11), (0, .ref x0), (1, .int x1), (2, .int x2), (3, .int x3), (4, .int x4), (5, .int x5), (6, .int x6)]) hx hb dX12_through_99 hl (by decide) rfl (fun ls hl => ?_)
        refine lv_iconst (v := 0) hx hb dX12_through_101 (by decide) ?_
        refine lv_topi (fun x8_12 e1 => ?_)
        have hf := lt1_n e1 hf
        refine lv_istore (lv' := [(8, .int x8_12), (7, .int x7_11), (0, .ref x0), (1, .int x1), (2, .int x2), (3, .int x3), (4, .int x4), (5, .int x5), (6, .int x6)]) hx hb dX12_through_102 hl (by decide) rfl (fun ls hl => ?_)
        obtain ⟨ex104, hl104, hk104⟩ := bs hf
        refine loop_W (P := fun st => ∀ (H : Heap) (locs : List Loc) (ls : Array Slot), wS E s st.2.2.2 H locs → lv_has ls 9 [(0, .ref x0), (1, .int x1), (2, .int x2), (3, .int x3), (4, .int x4), (5, .int x5), (6, .int st.1), (7, .int st.2.1), (8, .int st.2.2.1)] → W p l e R s m args below meth c H locs 0 0 Q (F0 m 104 ls [])) (ex := ex104) ?_ FU _ hl104 H locs ls hS (lv_sub hl [2, 3, 4, 5, 6, 7, 8, 1, 0] rfl)
        intro st y104 hf hyL104 hyR104 H locs ls hS hl
        obtain ⟨x6, x7, x8, mm⟩ := st
        have hf : fX12_through_b104 (eS E) x0 x1 x2 x3 x4 x5 x6 x7 x8 mm = some y104 := hf
        have hS : wS E s mm H locs := hS
        have hl : lv_has ls 9 [(0, .ref x0), (1, .int x1), (2, .int x2), (3, .int x3), (4, .int x4), (5, .int x5), (6, .int x6), (7, .int x7), (8, .int x8)] := hl
        unfold fX12_through_b104 at hf
        have hj171 : ∀ (x6 : Int32) (x7 : Int32) (x8 : Int32) (mm : Mem) (H : Heap) (locs : List Loc) (ls : Array Slot), fX12_through_j171 (eS E) x0 x1 x2 x3 x4 x5 x6 x7 x8 mm = some y104 → wS E s mm H locs → lv_has ls 9 [(0, .ref x0), (1, .int x1), (2, .int x2), (3, .int x3), (4, .int x4), (5, .int x5), (6, .int x6), (7, .int x7), (8, .int x8)] → W p l e R s m args below meth c H locs 0 0 Q (F0 m 171 ls []) := by
          intro x6 x7 x8 mm H locs ls hf hS hl
          unfold fX12_through_j171 at hf
          obtain ⟨x8_13, e1⟩ : ∃ z : Int32, z = x8 + 1 := ⟨_, rfl⟩
          have hf := lt1_n e1 hf
          refine lv_iinc (v := x8_13) (lv' := [(8, .int x8_13), (0, .ref x0), (1, .int x1), (2, .int x2), (3, .int x3), (4, .int x4), (5, .int x5), (6, .int x6), (7, .int x7)]) hx hb dX12_through_171 hl (k := 8) rfl (by rw [e1]; rfl) (by decide) rfl (fun ls hl => ?_)
          refine lv_goto (tgt := 104) hx hb dX12_through_174 (by decide) ?_
          exact hyL104 _ (Option.some.inj hf).symm H locs ls hS (lv_sub hl [1, 2, 3, 4, 5, 6, 7, 8, 0] rfl)
        have hj145 : ∀ (x6 : Int32) (x8 : Int32) (s0 : Int32) (mm : Mem) (H : Heap) (locs : List Loc) (ls : Array Slot), fX12_through_j145 (eS E) x0 x1 x2 x3 x4 x5 x6 x8 s0 mm = some y104 → wS E s mm H locs → lv_has ls 9 [(0, .ref x0), (1, .int x1), (2, .int x2), (3, .int x3), (4, .int x4), (5, .int x5), (6, .int x6), (8, .int x8)] → W p l e R s m args below meth c H locs 0 0 Q (F0 m 145 ls [.int s0]) := by
          intro x6 x8 s0 mm H locs ls hf hS hl
          unfold fX12_through_j145 at hf
          refine lv_topi (fun x7_14 e1 => ?_)
          have hf := lt1_n e1 hf
          refine lv_istore (lv' := [(7, .int x7_14), (0, .ref x0), (1, .int x1), (2, .int x2), (3, .int x3), (4, .int x4), (5, .int x5), (6, .int x6), (8, .int x8)]) hx hb dX12_through_145 hl (by decide) rfl (fun ls hl => ?_)
          refine lv_iload hx hb dX12_through_147 (lv_at hl 7 rfl) ?_
          refine lv_aload_n hx hb dX12_through_149 rfl (lv_at hl 1 rfl) ?_
          refine lv_iload_n hx hb dX12_through_150 rfl (lv_at hl 2 rfl) ?_
          refine lv_iload_n hx hb dX12_through_151 rfl (lv_at hl 3 rfl) ?_
          refine lv_iload hx hb dX12_through_152 (lv_at hl 8 rfl) ?_
          refine lv_aload_n hx hb dX12_through_154 rfl (lv_at hl 1 rfl) ?_
          obtain ⟨a15, h1, hf⟩ := bs hf
          refine am_gr X hS fl_X12_62 rfl h1 dX12_through_155 ?_
          refine lv_iconst (v := 0) hx hb dX12_through_158 (by decide) ?_
          refine lv_iload_n hx hb dX12_through_159 rfl (lv_at hl 2 rfl) ?_
          refine lv_iload_n hx hb dX12_through_160 rfl (lv_at hl 3 rfl) ?_
          obtain ⟨v16, h1, hf⟩ := bs hf
          refine am_endi hS (am_runS (As := [.int 0, .int x1, .int x2]) X (hml.trans hl.1.symm) hS (cX12_in_ok (l := l) (E := E) h1) ms_X12_319 ⟨Nat.le_trans (by decide) hR.1, Nat.le_trans (by decide) hR.2⟩ ⟨Nat.zero_le _, Nat.zero_le _⟩ rfl rfl (Nat.le_of_ble_eq_true rfl) dX12_through_161) (fun H locs hS => ?_)
          obtain ⟨v17, h1, hf⟩ := bs hf
          refine am_ald X hS h1 dX12_through_164 ?_
          obtain ⟨u0, h0, hf⟩ := bs hf
          obtain ⟨_, hrc⟩ := isO_n h0
          obtain ⟨v18, m19, h1, hf⟩ := bs2 hf
          refine am_endi hS (am_runV (As := [.int x1, .int x2, .int x8, .int v17]) X (hml.trans hl.1.symm) hS (cX12_turnsBy_ok (l := l) (E := E) h1) mv_X12_338 hrc rfl ⟨Nat.le_trans (by decide) hR.1, Nat.le_trans (by decide) hR.2⟩ ⟨Nat.zero_le _, Nat.zero_le _⟩ rfl rfl (Nat.le_of_ble_eq_true rfl) dX12_through_165) (fun H locs hS => ?_)
          refine lv_iadd hx hb dX12_through_168 ?_
          refine lv_topi (fun x6_20 e1 => ?_)
          have hf := lt1_n e1 hf
          refine lv_istore (lv' := [(6, .int x6_20), (7, .int x7_14), (0, .ref x0), (1, .int x1), (2, .int x2), (3, .int x3), (4, .int x4), (5, .int x5), (8, .int x8)]) hx hb dX12_through_169 hl (by decide) rfl (fun ls hl => ?_)
          exact hj171 x6_20 x7_14 x8 m19 H locs ls hf hS (lv_sub hl [2, 3, 4, 5, 6, 7, 0, 1, 8] rfl)
        refine lv_iload hx hb dX12_through_104 (lv_at hl 8 rfl) ?_
        refine lv_aload_n hx hb dX12_through_106 rfl (lv_at hl 0 rfl) ?_
        obtain ⟨v21, h1, hf⟩ := bs hf
        refine am_gi X hS fl_X12_153 rfl h1 dX12_through_107 ?_
        refine lv_icmp_ge (tgt := 177) hx hb dX12_through_110 (by decide) (fun q22 => ?_) (fun q22 => ?_)
        · have hf := ifp hf q22
          obtain rfl : (x6, x7, mm) = ex104 := hyR104 _ (Option.some.inj hf).symm
          exact hj177 x4 x5 x6 x7 mm H locs ls hk104 hS (lv_sub hl [0, 1, 2, 3, 4, 5, 6, 7] rfl)
        · have hf := ifn hf q22
          refine lv_iload hx hb dX12_through_113 (lv_at hl 7 rfl) ?_
          refine lv_if_eq (tgt := 177) hx hb dX12_through_115 (by decide) (fun q23 => ?_) (fun q23 => ?_)
          · have hf := ifp hf q23
            obtain rfl : (x6, x7, mm) = ex104 := hyR104 _ (Option.some.inj hf).symm
            exact hj177 x4 x5 x6 x7 mm H locs ls hk104 hS (lv_sub hl [0, 1, 2, 3, 4, 5, 6, 7] rfl)
          · have hf := ifn hf q23
            refine lv_iload hx hb dX12_through_118 (lv_at hl 5 rfl) ?_
            refine lv_iload hx hb dX12_through_120 (lv_at hl 8 rfl) ?_
            refine lv_ishr hx hb dX12_through_122 ?_
            refine lv_iconst (v := 1) hx hb dX12_through_123 (by decide) ?_
            refine lv_iand hx hb dX12_through_124 ?_
            refine lv_if_ne (tgt := 131) hx hb dX12_through_125 (by decide) (fun q24 => ?_) (fun q24 => ?_)
            · have hf := ifn hf q24
              refine lv_aload_n hx hb dX12_through_131 rfl (lv_at hl 0 rfl) ?_
              refine lv_iload hx hb dX12_through_132 (lv_at hl 8 rfl) ?_
              obtain ⟨u0, h0, hf⟩ := bs hf
              obtain ⟨_, hrc⟩ := isO_n h0
              obtain ⟨v25, h1, hf⟩ := bs hf
              refine am_endi hS (am_runV (As := [.int x8]) X (hml.trans hl.1.symm) hS (cX12_joinsAll_ok (l := l) (E := E) h1) mv_X12_335 hrc rfl ⟨Nat.le_trans (by decide) hR.1, Nat.le_trans (by decide) hR.2⟩ ⟨Nat.zero_le _, Nat.zero_le _⟩ rfl rfl (Nat.le_of_ble_eq_true rfl) dX12_through_134) (fun H locs hS => ?_)
              refine lv_if_ne (tgt := 144) hx hb dX12_through_137 (by decide) (fun q26 => ?_) (fun q26 => ?_)
              · have hf := ifn hf q26
                refine lv_iconst (v := 0) hx hb dX12_through_144 (by decide) ?_
                exact hj145 x6 x8 0 mm H locs ls hf hS (lv_sub hl [0, 1, 2, 3, 4, 5, 6, 8] rfl)
              · have hf := ifp hf q26
                refine lv_iconst (v := 1) hx hb dX12_through_140 (by decide) ?_
                refine lv_goto (tgt := 145) hx hb dX12_through_141 (by decide) ?_
                exact hj145 x6 x8 1 mm H locs ls hf hS (lv_sub hl [0, 1, 2, 3, 4, 5, 6, 8] rfl)
            · have hf := ifp hf q24
              refine lv_goto (tgt := 171) hx hb dX12_through_128 (by decide) ?_
              exact hj171 x6 x7 x8 mm H locs ls hf hS hl
      have hj94 : ∀ (x4 : Int32) (x5 : Int32) (x6 : Int32) (mm : Mem) (H : Heap) (locs : List Loc) (ls : Array Slot), fX12_through_j94 (eS E) x0 x1 x2 x3 x4 x5 x6 mm = some y61 → wS E s mm H locs → lv_has ls 9 [(0, .ref x0), (1, .int x1), (2, .int x2), (3, .int x3), (4, .int x4), (5, .int x5), (6, .int x6)] → W p l e R s m args below meth c H locs 0 0 Q (F0 m 94 ls []) := by
        intro x4 x5 x6 mm H locs ls hf hS hl
        unfold fX12_through_j94 at hf
        refine lv_iconst (v := 1) hx hb dX12_through_94 (by decide) ?_
        refine lv_goto (tgt := 99) hx hb dX12_through_95 (by decide) ?_
        exact hj99 x4 x5 x6 1 mm H locs ls hf hS hl
      refine lv_iload hx hb dX12_through_61 (lv_at hl 5 rfl) ?_
      refine lv_iconst (v := 1) hx hb dX12_through_63 (by decide) ?_
      refine lv_aload_n hx hb dX12_through_64 rfl (lv_at hl 0 rfl) ?_
      obtain ⟨v27, h1, hf⟩ := bs hf
      refine am_gi X hS fl_X12_153 rfl h1 dX12_through_65 ?_
      refine lv_ishl hx hb dX12_through_68 ?_
      refine lv_icmp_ge (tgt := 198) hx hb dX12_through_69 (by decide) (fun q28 => ?_) (fun q28 => ?_)
      · have hf := ifp hf q28
        obtain rfl : (x4, mm) = ex61 := hyR61 _ (Option.some.inj hf).symm
        exact hj198 x4 mm H locs ls hk61 hS (lv_sub hl [4] rfl)
      · have hf := ifn hf q28
        refine lv_iconst (v := 0) hx hb dX12_through_72 (by decide) ?_
        refine lv_topi (fun x6_29 e1 => ?_)
        have hf := lt1_n e1 hf
        refine lv_istore (lv' := [(6, .int x6_29), (0, .ref x0), (1, .int x1), (2, .int x2), (3, .int x3), (4, .int x4), (5, .int x5)]) hx hb dX12_through_73 hl (by decide) rfl (fun ls hl => ?_)
        refine lv_iload hx hb dX12_through_75 (lv_at hl 5 rfl) ?_
        refine lv_iconst (v := (-1)) hx hb dX12_through_77 (by decide) ?_
        refine lv_icmp_eq (tgt := 94) hx hb dX12_through_78 (by decide) (fun q30 => ?_) (fun q30 => ?_)
        · have hf := ifp hf q30
          exact hj94 x4 x5 x6_29 mm H locs ls hf hS (lv_sub hl [1, 2, 3, 4, 5, 6, 0] rfl)
        · have hf := ifn hf q30
          refine lv_iload hx hb dX12_through_81 (lv_at hl 6 rfl) ?_
          obtain ⟨v31, h1, hf⟩ := bs hf
          refine am_endi hS (am_runS (As := [.int x5]) X (hml.trans hl.1.symm) hS (cX12_ones_ok (l := l) (E := E) h1) ms_X12_404 ⟨Nat.le_trans (by decide) hR.1, Nat.le_trans (by decide) hR.2⟩ ⟨Nat.zero_le _, Nat.zero_le _⟩ rfl rfl (Nat.le_of_ble_eq_true rfl) dX12_through_83) (fun H locs hS => ?_)
          refine lv_iload hx hb dX12_through_86 (lv_at hl 5 rfl) ?_
          obtain ⟨v32, h1, hf⟩ := bs hf
          refine am_endi hS (am_runS (As := [.int x4]) X (hml.trans hl.1.symm) hS (cX12_ones_ok (l := l) (E := E) h1) ms_X12_404 ⟨Nat.le_trans (by decide) hR.1, Nat.le_trans (by decide) hR.2⟩ ⟨Nat.zero_le _, Nat.zero_le _⟩ rfl rfl (Nat.le_of_ble_eq_true rfl) dX12_through_88) (fun H locs hS => ?_)
          refine lv_icmp_ge (tgt := 98) hx hb dX12_through_91 (by decide) (fun q33 => ?_) (fun q33 => ?_)
          · have hf := ifp hf q33
            refine lv_iconst (v := 0) hx hb dX12_through_98 (by decide) ?_
            exact hj99 x4 x5 x6_29 0 mm H locs ls hf hS (lv_sub hl [1, 2, 3, 4, 5, 6, 0] rfl)
          · have hf := ifn hf q33
            exact hj94 x4 x5 x6_29 mm H locs ls hf hS (lv_sub hl [1, 2, 3, 4, 5, 6, 0] rfl)
    · have hf := ifp hf q3
      exact hj49 m2 H locs ls hf hS (lv_sub hl [] rfl)
  have hj40 : ∀ (x0 : Nat) (x1 : Int32) (x2 : Int32) (x3 : Int32) (s0 : Nat) (mm : Mem) (H : Heap) (locs : List Loc) (ls : Array Slot), fX12_through_j40 (eS E) x0 x1 x2 x3 s0 mm = some (r, mm1) → wS E s mm H locs → lv_has ls 9 [(0, .ref x0), (1, .int x1), (2, .int x2), (3, .int x3)] → W p l e R s m args below meth c H locs 0 0 Q (F0 m 40 ls [.ref s0]) := by
    intro x0 x1 x2 x3 s0 mm H locs ls hf hS hl
    unfold fX12_through_j40 at hf
    refine lv_iconst (v := 0) hx hb dX12_through_40 (by decide) ?_
    exact hj41 x0 x1 x2 x3 s0 0 mm H locs ls hf hS hl
  intro H locs ls hS hl
  refine lv_aload_n hx hb dX12_through_0 rfl (lv_at hl 0 rfl) ?_
  refine lv_iconst (v := 0) hx hb dX12_through_1 (by decide) ?_
  obtain ⟨m34, h1, hf⟩ := bs hf
  refine am_pi X hS fp_X12_3 rfl h1 dX12_through_2 (fun H locs hS => ?_)
  refine lv_aload_n hx hb dX12_through_5 rfl (lv_at hl 0 rfl) ?_
  refine lv_iload_n hx hb dX12_through_6 rfl (lv_at hl 1 rfl) ?_
  refine lv_iconst (v := 1) hx hb dX12_through_7 (by decide) ?_
  obtain ⟨u0, h0, hf⟩ := bs hf
  obtain ⟨_, hrc⟩ := isO_n h0
  obtain ⟨v35, m36, h1, hf⟩ := bs2 hf
  refine am_endi hS (am_runV (As := [.int x1, .int 1]) X (hml.trans hl.1.symm) hS (cX12_isFellow_ok (l := l) (E := E) h1) mv_X12_377 hrc rfl ⟨Nat.le_trans (by decide) hR.1, Nat.le_trans (by decide) hR.2⟩ ⟨Nat.zero_le _, Nat.zero_le _⟩ rfl rfl (Nat.le_of_ble_eq_true rfl) dX12_through_8) (fun H locs hS => ?_)
  refine lv_if_eq (tgt := 49) hx hb dX12_through_11 (by decide) (fun q37 => ?_) (fun q37 => ?_)
  · have hf := ifp hf q37
    exact hj49 m36 H locs ls hf hS (lv_sub hl [] rfl)
  · have hf := ifn hf q37
    refine lv_aload_n hx hb dX12_through_14 rfl (lv_at hl 0 rfl) ?_
    refine lv_iload_n hx hb dX12_through_15 rfl (lv_at hl 2 rfl) ?_
    obtain ⟨v38, h1, hf⟩ := bs hf
    refine am_endi hS (am_runS (As := [.int x2]) X (hml.trans hl.1.symm) hS (cX12_isPart_ok (l := l) (E := E) h1) ms_X12_386 ⟨Nat.le_trans (by decide) hR.1, Nat.le_trans (by decide) hR.2⟩ ⟨Nat.zero_le _, Nat.zero_le _⟩ rfl rfl (Nat.le_of_ble_eq_true rfl) dX12_through_16) (fun H locs hS => ?_)
    refine lv_if_eq (tgt := 40) hx hb dX12_through_19 (by decide) (fun q39 => ?_) (fun q39 => ?_)
    · have hf := ifp hf q39
      exact hj40 x0 x1 x2 x3 x0 m36 H locs ls hf hS hl
    · have hf := ifn hf q39
      refine lv_iload_n hx hb dX12_through_22 rfl (lv_at hl 3 rfl) ?_
      refine lv_iconst (v := 0) hx hb dX12_through_23 (by decide) ?_
      refine lv_aload_n hx hb dX12_through_24 rfl (lv_at hl 0 rfl) ?_
      obtain ⟨v40, h1, hf⟩ := bs hf
      refine am_gi X hS fl_X12_156 rfl h1 dX12_through_25 ?_
      refine lv_iconst (v := 1) hx hb dX12_through_28 (by decide) ?_
      refine lv_isub hx hb dX12_through_29 ?_
      obtain ⟨v41, h1, hf⟩ := bs hf
      refine am_endi hS (am_runS (As := [.int x3, .int 0, .int (v40 - 1)]) X (hml.trans hl.1.symm) hS (cX12_within_ok (l := l) (E := E) h1) ms_X12_368 ⟨Nat.le_trans (by decide) hR.1, Nat.le_trans (by decide) hR.2⟩ ⟨Nat.zero_le _, Nat.zero_le _⟩ rfl rfl (Nat.le_of_ble_eq_true rfl) dX12_through_30) (fun H locs hS => ?_)
      refine lv_if_eq (tgt := 40) hx hb dX12_through_33 (by decide) (fun q42 => ?_) (fun q42 => ?_)
      · have hf := ifp hf q42
        exact hj40 x0 x1 x2 x3 x0 m36 H locs ls hf hS hl
      · have hf := ifn hf q42
        refine lv_iconst (v := 1) hx hb dX12_through_36 (by decide) ?_
        refine lv_goto (tgt := 41) hx hb dX12_through_37 (by decide) ?_
        exact hj41 x0 x1 x2 x3 x0 1 m36 H locs ls hf hS hl
set_option maxRecDepth 100000 in
theorem cX12_through_ok {l : Launch} {E : Ev} {x0 : Nat} {x1 : Int32} {x2 : Int32} {x3 : Int32} {mm : Mem} {r : Int32} {mm1 : Mem} (hf : fX12_through (eS E) x0 x1 x2 x3 mm = some (r, mm1)) : CtI l yX12_through cX12_through 9 (some .int) 5 118 E [.ref x0, .int x1, .int x2, .int x3] mm r mm1 := by
  refine Met.ofW (cc := cX12_through) (maxL := 9) (ret := (some .int)) (by decide) rfl ?_
  intro p e s m args below meth c s₁ B hml hv
  obtain ⟨rfl, X, hS, hr, hlocks⟩ := am_in B hv
  refine am_entry (Nat.le_of_ble_eq_true rfl) (fun ls hl => ?_)
  exact wX12_through X hml ⟨Nat.le_refl _, Nat.le_refl _⟩ hf (fun pc H locs ls hn hd hS => am_ri X hS hr hn hd hlocks) _ _ ls hS hl
set_option maxHeartbeats 4000000 in
set_option maxRecDepth 100000 in
theorem wX12_size {p : Program} {l : Launch} {e : Env} {R : Room} {s : State} {m : MethodId} {args : Array Value} {below : List Frame} {meth : Method} {c : Code} {Q : State → Prop} {E : Ev} (X : Cx p s m args c cX12_size RX12 E) (hml : c.maxLocals = 1) (hR : 0 ≤ R.frames ∧ 0 ≤ R.locals) {x0 : Int32} {mm : Mem} {r : Int32} (hf : fX12_size x0 = some r) (hret : ∀ (pc : Nat) (H : Heap) (locs : List Loc) (ls : Array Slot), narrow .int (.int r) = .int r → decode cX12_size pc = .ok (.ireturn, 1) → wS E s mm H locs → W p l e R s m args below meth c H locs 0 0 Q (F0 m pc ls [.int r])) : ∀ (H : Heap) (locs : List Loc) (ls : Array Slot), wS E s mm H locs → lv_has ls 1 [(0, .int x0)] → W p l e R s m args below meth c H locs 0 0 Q (F0 m 0 ls []) := by
  have hx := X.1
  have hb := X.2.1
  unfold fX12_size at hf
  have hj10 : ∀ (s0 : Int32) (H : Heap) (locs : List Loc) (ls : Array Slot), fX12_size_j10 s0 = some r → wS E s mm H locs → lv_has ls 1 [] → W p l e R s m args below meth c H locs 0 0 Q (F0 m 10 ls [.int s0]) := by
    intro s0 H locs ls hf hS hl
    unfold fX12_size_j10 at hf
    cases hf
    exact hret _ _ _ _ rfl dX12_size_10 hS
  intro H locs ls hS hl
  refine lv_iload_n hx hb dX12_size_0 rfl (lv_at hl 0 rfl) ?_
  refine lv_if_ge (tgt := 9) hx hb dX12_size_1 (by decide) (fun q1 => ?_) (fun q1 => ?_)
  · have hf := ifp hf q1
    refine lv_iload_n hx hb dX12_size_9 rfl (lv_at hl 0 rfl) ?_
    exact hj10 x0 H locs ls hf hS (lv_sub hl [] rfl)
  · have hf := ifn hf q1
    refine lv_iload_n hx hb dX12_size_4 rfl (lv_at hl 0 rfl) ?_
    refine lv_ineg hx hb dX12_size_5 ?_
    refine lv_goto (tgt := 10) hx hb dX12_size_6 (by decide) ?_
    exact hj10 (-x0) H locs ls hf hS (lv_sub hl [] rfl)
set_option maxRecDepth 100000 in
theorem cX12_size_ok {l : Launch} {E : Ev} {x0 : Int32} {mm : Mem} {r : Int32} (hf : fX12_size x0 = some r) : CtI l yX12_size cX12_size 1 (some .int) 0 0 E [.int x0] mm r mm := by
  refine Met.ofW (cc := cX12_size) (maxL := 1) (ret := (some .int)) (by decide) rfl ?_
  intro p e s m args below meth c s₁ B hml hv
  obtain ⟨rfl, X, hS, hr, hlocks⟩ := am_in B hv
  refine am_entry (Nat.le_of_ble_eq_true rfl) (fun ls hl => ?_)
  exact wX12_size X hml ⟨Nat.le_refl _, Nat.le_refl _⟩ hf (fun pc H locs ls hn hd hS => am_ri X hS hr hn hd hlocks) _ _ ls hS hl
set_option maxHeartbeats 4000000 in
set_option maxRecDepth 100000 in
theorem wX12_serves {p : Program} {l : Launch} {e : Env} {R : Room} {s : State} {m : MethodId} {args : Array Value} {below : List Frame} {meth : Method} {c : Code} {Q : State → Prop} {E : Ev} (X : Cx p s m args c cX12_serves RX12 E) (hml : c.maxLocals = 5) (hR : 1 ≤ R.frames ∧ 23 ≤ R.locals) {x0 : Nat} {x1 : Int32} {x2 : Int32} {mm : Mem} {r : Int32} {mm1 : Mem} (hf : fX12_serves (eS E) x0 x1 x2 mm = some (r, mm1)) (hret : ∀ (pc : Nat) (H : Heap) (locs : List Loc) (ls : Array Slot), narrow .int (.int r) = .int r → decode cX12_serves pc = .ok (.ireturn, 1) → wS E s mm1 H locs → W p l e R s m args below meth c H locs 0 0 Q (F0 m pc ls [.int r])) : ∀ (H : Heap) (locs : List Loc) (ls : Array Slot), wS E s mm H locs → lv_has ls 5 [(0, .ref x0), (1, .int x1), (2, .int x2)] → W p l e R s m args below meth c H locs 0 0 Q (F0 m 0 ls []) := by
  have hx := X.1
  have hb := X.2.1
  unfold fX12_serves at hf
  have hj103 : ∀ (x3 : Int32) (mm : Mem) (H : Heap) (locs : List Loc) (ls : Array Slot), fX12_serves_j103 (eS E) x3 mm = some (r, mm1) → wS E s mm H locs → lv_has ls 5 [(3, .int x3)] → W p l e R s m args below meth c H locs 0 0 Q (F0 m 103 ls []) := by
    intro x3 mm H locs ls hf hS hl
    unfold fX12_serves_j103 at hf
    refine lv_iload_n hx hb dX12_serves_103 rfl (lv_at hl 0 rfl) ?_
    cases hf
    exact hret _ _ _ _ rfl dX12_serves_104 hS
  have hj29 : ∀ (x0 : Nat) (x1 : Int32) (x2 : Int32) (s0 : Nat) (s1 : Int32) (mm : Mem) (H : Heap) (locs : List Loc) (ls : Array Slot), fX12_serves_j29 (eS E) x0 x1 x2 s0 s1 mm = some (r, mm1) → wS E s mm H locs → lv_has ls 5 [(0, .ref x0), (1, .int x1), (2, .int x2)] → W p l e R s m args below meth c H locs 0 0 Q (F0 m 29 ls [.int s1, .ref s0]) := by
    intro x0 x1 x2 s0 s1 mm H locs ls hf hS hl
    unfold fX12_serves_j29 at hf
    refine lv_iconst (v := 1) hx hb dX12_serves_29 (by decide) ?_
    refine lv_iconst (v := 1) hx hb dX12_serves_30 (by decide) ?_
    obtain ⟨u0, h0, hf⟩ := bs hf
    obtain ⟨_, hrc⟩ := isO_n h0
    obtain ⟨v1, m2, h1, hf⟩ := bs2 hf
    refine am_endi hS (am_runV (As := [.int s1, .int 1, .int 1]) X (hml.trans hl.1.symm) hS (cX12_may_ok (l := l) (E := E) h1) mv_X12_190 hrc rfl ⟨Nat.le_trans (by decide) hR.1, Nat.le_trans (by decide) hR.2⟩ ⟨Nat.zero_le _, Nat.zero_le _⟩ rfl rfl (Nat.le_of_ble_eq_true rfl) dX12_serves_31) (fun H locs hS => ?_)
    refine lv_if_ne (tgt := 39) hx hb dX12_serves_34 (by decide) (fun q3 => ?_) (fun q3 => ?_)
    · have hf := ifn hf q3
      refine lv_iconst (v := (-1)) hx hb dX12_serves_39 (by decide) ?_
      refine lv_topi (fun x3_4 e1 => ?_)
      have hf := lt1_n e1 hf
      refine lv_istore_n (lv' := [(3, .int x3_4), (0, .ref x0), (1, .int x1), (2, .int x2)]) hx hb dX12_serves_40 rfl hl (by decide) rfl (fun ls hl => ?_)
      refine lv_iconst (v := 0) hx hb dX12_serves_41 (by decide) ?_
      refine lv_topi (fun x4_5 e1 => ?_)
      have hf := lt1_n e1 hf
      refine lv_istore (lv' := [(4, .int x4_5), (3, .int x3_4), (0, .ref x0), (1, .int x1), (2, .int x2)]) hx hb dX12_serves_42 hl (by decide) rfl (fun ls hl => ?_)
      obtain ⟨ex44, hl44, hk44⟩ := bs hf
      refine loop_W (P := fun st => ∀ (H : Heap) (locs : List Loc) (ls : Array Slot), wS E s m2 H locs → lv_has ls 5 [(0, .ref x0), (1, .int x1), (2, .int x2), (3, .int st.1), (4, .int st.2)] → W p l e R s m args below meth c H locs 0 0 Q (F0 m 44 ls [])) (ex := ex44) ?_ FU _ hl44 H locs ls hS (lv_sub hl [2, 3, 4, 1, 0] rfl)
      intro st y44 hf hyL44 hyR44 H locs ls hS hl
      obtain ⟨x3, x4⟩ := st
      obtain ⟨mm, rfl⟩ : ∃ z, z = m2 := ⟨_, rfl⟩
      have hf : fX12_serves_b44 (eS E) x0 x1 x2 x3 x4 mm = some y44 := hf
      have hS : wS E s mm H locs := hS
      have hl : lv_has ls 5 [(0, .ref x0), (1, .int x1), (2, .int x2), (3, .int x3), (4, .int x4)] := hl
      unfold fX12_serves_b44 at hf
      have hj97 : ∀ (x3 : Int32) (x4 : Int32) (H : Heap) (locs : List Loc) (ls : Array Slot), fX12_serves_j97 (eS E) x0 x1 x2 x3 x4 mm = some y44 → wS E s mm H locs → lv_has ls 5 [(0, .ref x0), (1, .int x1), (2, .int x2), (3, .int x3), (4, .int x4)] → W p l e R s m args below meth c H locs 0 0 Q (F0 m 97 ls []) := by
        intro x3 x4 H locs ls hf hS hl
        unfold fX12_serves_j97 at hf
        obtain ⟨x4_6, e1⟩ : ∃ z : Int32, z = x4 + 1 := ⟨_, rfl⟩
        have hf := lt1_n e1 hf
        refine lv_iinc (v := x4_6) (lv' := [(4, .int x4_6), (0, .ref x0), (1, .int x1), (2, .int x2), (3, .int x3)]) hx hb dX12_serves_97 hl (k := 4) rfl (by rw [e1]; rfl) (by decide) rfl (fun ls hl => ?_)
        refine lv_goto (tgt := 44) hx hb dX12_serves_100 (by decide) ?_
        exact hyL44 _ (Option.some.inj hf).symm H locs ls hS (lv_sub hl [1, 2, 3, 4, 0] rfl)
      have hj94 : ∀ (x4 : Int32) (H : Heap) (locs : List Loc) (ls : Array Slot), fX12_serves_j94 (eS E) x0 x1 x2 x4 mm = some y44 → wS E s mm H locs → lv_has ls 5 [(0, .ref x0), (1, .int x1), (2, .int x2), (4, .int x4)] → W p l e R s m args below meth c H locs 0 0 Q (F0 m 94 ls []) := by
        intro x4 H locs ls hf hS hl
        unfold fX12_serves_j94 at hf
        refine lv_iload hx hb dX12_serves_94 (lv_at hl 3 rfl) ?_
        refine lv_topi (fun x3_7 e1 => ?_)
        have hf := lt1_n e1 hf
        refine lv_istore_n (lv' := [(3, .int x3_7), (0, .ref x0), (1, .int x1), (2, .int x2), (4, .int x4)]) hx hb dX12_serves_96 rfl hl (by decide) rfl (fun ls hl => ?_)
        exact hj97 x3_7 x4 H locs ls hf hS (lv_sub hl [1, 2, 3, 0, 4] rfl)
      refine lv_iload hx hb dX12_serves_44 (lv_at hl 4 rfl) ?_
      refine lv_aload_n hx hb dX12_serves_46 rfl (lv_at hl 0 rfl) ?_
      obtain ⟨v8, h1, hf⟩ := bs hf
      refine am_gi X hS fl_X12_150 rfl h1 dX12_serves_47 ?_
      refine lv_icmp_ge (tgt := 103) hx hb dX12_serves_50 (by decide) (fun q9 => ?_) (fun q9 => ?_)
      · have hf := ifp hf q9
        obtain rfl : x3 = ex44 := hyR44 _ (Option.some.inj hf).symm
        exact hj103 x3 mm H locs ls hk44 hS (lv_sub hl [3] rfl)
      · have hf := ifn hf q9
        refine lv_iload_n hx hb dX12_serves_53 rfl (lv_at hl 3 rfl) ?_
        refine lv_iconst (v := (-1)) hx hb dX12_serves_54 (by decide) ?_
        refine lv_icmp_eq (tgt := 94) hx hb dX12_serves_55 (by decide) (fun q10 => ?_) (fun q10 => ?_)
        · have hf := ifp hf q10
          exact hj94 x4 H locs ls hf hS (lv_sub hl [0, 1, 2, 4] rfl)
        · have hf := ifn hf q10
          refine lv_aload_n hx hb dX12_serves_58 rfl (lv_at hl 0 rfl) ?_
          obtain ⟨a11, h1, hf⟩ := bs hf
          refine am_gr X hS fl_X12_59 rfl h1 dX12_serves_59 ?_
          refine lv_iconst (v := 0) hx hb dX12_serves_62 (by decide) ?_
          refine lv_iload hx hb dX12_serves_63 (lv_at hl 4 rfl) ?_
          refine lv_iload_n hx hb dX12_serves_65 rfl (lv_at hl 1 rfl) ?_
          obtain ⟨v12, h1, hf⟩ := bs hf
          refine am_endi hS (am_runS (As := [.int 0, .int x4, .int x1]) X (hml.trans hl.1.symm) hS (cX12_in_ok (l := l) (E := E) h1) ms_X12_319 ⟨Nat.le_trans (by decide) hR.1, Nat.le_trans (by decide) hR.2⟩ ⟨Nat.zero_le _, Nat.zero_le _⟩ rfl rfl (Nat.le_of_ble_eq_true rfl) dX12_serves_66) (fun H locs hS => ?_)
          obtain ⟨v13, h1, hf⟩ := bs hf
          refine am_ald X hS h1 dX12_serves_69 ?_
          refine lv_iload_n hx hb dX12_serves_70 rfl (lv_at hl 2 rfl) ?_
          refine lv_isub hx hb dX12_serves_71 ?_
          obtain ⟨v14, h1, hf⟩ := bs hf
          refine am_endi hS (am_runS (As := [.int (v13 - x2)]) X (hml.trans hl.1.symm) hS (cX12_size_ok (l := l) (E := E) h1) ms_X12_407 ⟨Nat.le_trans (by decide) hR.1, Nat.le_trans (by decide) hR.2⟩ ⟨Nat.zero_le _, Nat.zero_le _⟩ rfl rfl (Nat.le_of_ble_eq_true rfl) dX12_serves_72) (fun H locs hS => ?_)
          refine lv_aload_n hx hb dX12_serves_75 rfl (lv_at hl 0 rfl) ?_
          obtain ⟨a15, h1, hf⟩ := bs hf
          refine am_gr X hS fl_X12_59 rfl h1 dX12_serves_76 ?_
          refine lv_iconst (v := 0) hx hb dX12_serves_79 (by decide) ?_
          refine lv_iload_n hx hb dX12_serves_80 rfl (lv_at hl 3 rfl) ?_
          refine lv_iload_n hx hb dX12_serves_81 rfl (lv_at hl 1 rfl) ?_
          obtain ⟨v16, h1, hf⟩ := bs hf
          refine am_endi hS (am_runS (As := [.int 0, .int x3, .int x1]) X (hml.trans hl.1.symm) hS (cX12_in_ok (l := l) (E := E) h1) ms_X12_319 ⟨Nat.le_trans (by decide) hR.1, Nat.le_trans (by decide) hR.2⟩ ⟨Nat.zero_le _, Nat.zero_le _⟩ rfl rfl (Nat.le_of_ble_eq_true rfl) dX12_serves_82) (fun H locs hS => ?_)
          obtain ⟨v17, h1, hf⟩ := bs hf
          refine am_ald X hS h1 dX12_serves_85 ?_
          refine lv_iload_n hx hb dX12_serves_86 rfl (lv_at hl 2 rfl) ?_
          refine lv_isub hx hb dX12_serves_87 ?_
          obtain ⟨v18, h1, hf⟩ := bs hf
          refine am_endi hS (am_runS (As := [.int (v17 - x2)]) X (hml.trans hl.1.symm) hS (cX12_size_ok (l := l) (E := E) h1) ms_X12_407 ⟨Nat.le_trans (by decide) hR.1, Nat.le_trans (by decide) hR.2⟩ ⟨Nat.zero_le _, Nat.zero_le _⟩ rfl rfl (Nat.le_of_ble_eq_true rfl) dX12_serves_88) (fun H locs hS => ?_)
          refine lv_icmp_ge (tgt := 97) hx hb dX12_serves_91 (by decide) (fun q19 => ?_) (fun q19 => ?_)
          · have hf := ifp hf q19
            exact hj97 x3 x4 H locs ls hf hS hl
          · have hf := ifn hf q19
            exact hj94 x4 H locs ls hf hS (lv_sub hl [0, 1, 2, 4] rfl)
    · have hf := ifp hf q3
      refine lv_iconst (v := 0) hx hb dX12_serves_37 (by decide) ?_
      cases hf
      exact hret _ _ _ _ rfl dX12_serves_38 hS
  have hj28 : ∀ (x0 : Nat) (x1 : Int32) (x2 : Int32) (s0 : Nat) (mm : Mem) (H : Heap) (locs : List Loc) (ls : Array Slot), fX12_serves_j28 (eS E) x0 x1 x2 s0 mm = some (r, mm1) → wS E s mm H locs → lv_has ls 5 [(0, .ref x0), (1, .int x1), (2, .int x2)] → W p l e R s m args below meth c H locs 0 0 Q (F0 m 28 ls [.ref s0]) := by
    intro x0 x1 x2 s0 mm H locs ls hf hS hl
    unfold fX12_serves_j28 at hf
    refine lv_iconst (v := 0) hx hb dX12_serves_28 (by decide) ?_
    exact hj29 x0 x1 x2 s0 0 mm H locs ls hf hS hl
  intro H locs ls hS hl
  refine lv_aload_n hx hb dX12_serves_0 rfl (lv_at hl 0 rfl) ?_
  refine lv_iconst (v := 0) hx hb dX12_serves_1 (by decide) ?_
  obtain ⟨m20, h1, hf⟩ := bs hf
  refine am_pi X hS fp_X12_3 rfl h1 dX12_serves_2 (fun H locs hS => ?_)
  refine lv_aload_n hx hb dX12_serves_5 rfl (lv_at hl 0 rfl) ?_
  refine lv_iload_n hx hb dX12_serves_6 rfl (lv_at hl 1 rfl) ?_
  obtain ⟨v21, h1, hf⟩ := bs hf
  refine am_endi hS (am_runS (As := [.int x1]) X (hml.trans hl.1.symm) hS (cX12_isPart_ok (l := l) (E := E) h1) ms_X12_386 ⟨Nat.le_trans (by decide) hR.1, Nat.le_trans (by decide) hR.2⟩ ⟨Nat.zero_le _, Nat.zero_le _⟩ rfl rfl (Nat.le_of_ble_eq_true rfl) dX12_serves_7) (fun H locs hS => ?_)
  refine lv_if_eq (tgt := 28) hx hb dX12_serves_10 (by decide) (fun q22 => ?_) (fun q22 => ?_)
  · have hf := ifp hf q22
    exact hj28 x0 x1 x2 x0 m20 H locs ls hf hS hl
  · have hf := ifn hf q22
    refine lv_iload_n hx hb dX12_serves_13 rfl (lv_at hl 2 rfl) ?_
    refine lv_iconst (v := 0) hx hb dX12_serves_14 (by decide) ?_
    refine lv_sipush (v := 400) hx hb dX12_serves_15 (by decide) ?_
    obtain ⟨v23, h1, hf⟩ := bs hf
    refine am_endi hS (am_runS (As := [.int x2, .int 0, .int 400]) X (hml.trans hl.1.symm) hS (cX12_within_ok (l := l) (E := E) h1) ms_X12_368 ⟨Nat.le_trans (by decide) hR.1, Nat.le_trans (by decide) hR.2⟩ ⟨Nat.zero_le _, Nat.zero_le _⟩ rfl rfl (Nat.le_of_ble_eq_true rfl) dX12_serves_18) (fun H locs hS => ?_)
    refine lv_if_eq (tgt := 28) hx hb dX12_serves_21 (by decide) (fun q24 => ?_) (fun q24 => ?_)
    · have hf := ifp hf q24
      exact hj28 x0 x1 x2 x0 m20 H locs ls hf hS hl
    · have hf := ifn hf q24
      refine lv_iconst (v := 1) hx hb dX12_serves_24 (by decide) ?_
      refine lv_goto (tgt := 29) hx hb dX12_serves_25 (by decide) ?_
      exact hj29 x0 x1 x2 x0 1 m20 H locs ls hf hS hl
set_option maxRecDepth 100000 in
theorem cX12_serves_ok {l : Launch} {E : Ev} {x0 : Nat} {x1 : Int32} {x2 : Int32} {mm : Mem} {r : Int32} {mm1 : Mem} (hf : fX12_serves (eS E) x0 x1 x2 mm = some (r, mm1)) : CtI l yX12_serves cX12_serves 5 (some .int) 1 23 E [.ref x0, .int x1, .int x2] mm r mm1 := by
  refine Met.ofW (cc := cX12_serves) (maxL := 5) (ret := (some .int)) (by decide) rfl ?_
  intro p e s m args below meth c s₁ B hml hv
  obtain ⟨rfl, X, hS, hr, hlocks⟩ := am_in B hv
  refine am_entry (Nat.le_of_ble_eq_true rfl) (fun ls hl => ?_)
  exact wX12_serves X hml ⟨Nat.le_refl _, Nat.le_refl _⟩ hf (fun pc H locs ls hn hd hS => am_ri X hS hr hn hd hlocks) _ _ ls hS hl
set_option maxHeartbeats 4000000 in
set_option maxRecDepth 100000 in
theorem wX12_laysFits {p : Program} {l : Launch} {e : Env} {R : Room} {s : State} {m : MethodId} {args : Array Value} {below : List Frame} {meth : Method} {c : Code} {Q : State → Prop} {E : Ev} (X : Cx p s m args c cX12_laysFits RX12 E) (hml : c.maxLocals = 5) (hR : 6 ≤ R.frames ∧ 141 ≤ R.locals) {x0 : Nat} {mm : Mem} {mm1 : Mem} (hf : fX12_laysFits (eS E) x0 mm = some mm1) (hret : ∀ (pc : Nat) (H : Heap) (locs : List Loc) (ls : Array Slot), decode cX12_laysFits pc = .ok (.return_, 1) → wS E s mm1 H locs → W p l e R s m args below meth c H locs 0 0 Q (F0 m pc ls [])) : ∀ (H : Heap) (locs : List Loc) (ls : Array Slot), wS E s mm H locs → lv_has ls 5 [(0, .ref x0)] → W p l e R s m args below meth c H locs 0 0 Q (F0 m 0 ls []) := by
  have hx := X.1
  have hb := X.2.1
  unfold fX12_laysFits at hf
  have hj153 : ∀ (mm : Mem) (H : Heap) (locs : List Loc) (ls : Array Slot), fX12_laysFits_j153 (eS E) mm = some mm1 → wS E s mm H locs → lv_has ls 5 [] → W p l e R s m args below meth c H locs 0 0 Q (F0 m 153 ls []) := by
    intro mm H locs ls hf hS hl
    unfold fX12_laysFits_j153 at hf
    cases hf
    exact hret _ _ _ _ dX12_laysFits_153 hS
  intro H locs ls hS hl
  refine lv_aload_n hx hb dX12_laysFits_0 rfl (lv_at hl 0 rfl) ?_
  refine lv_iconst (v := 0) hx hb dX12_laysFits_1 (by decide) ?_
  obtain ⟨m1, h1, hf⟩ := bs hf
  refine am_pi X hS fp_X12_409 rfl h1 dX12_laysFits_2 (fun H locs hS => ?_)
  refine lv_iconst (v := 0) hx hb dX12_laysFits_5 (by decide) ?_
  refine lv_topi (fun x1_2 e1 => ?_)
  have hf := lt1_n e1 hf
  refine lv_istore_n (lv' := [(1, .int x1_2), (0, .ref x0)]) hx hb dX12_laysFits_6 rfl hl (by decide) rfl (fun ls hl => ?_)
  obtain ⟨ex7, hl7, hk7⟩ := bs hf
  refine loop_W (P := fun st => ∀ (H : Heap) (locs : List Loc) (ls : Array Slot), wS E s st.2 H locs → lv_has ls 5 [(0, .ref x0), (1, .int st.1)] → W p l e R s m args below meth c H locs 0 0 Q (F0 m 7 ls [])) (ex := ex7) ?_ FU _ hl7 H locs ls hS (lv_sub hl [1, 0] rfl)
  intro st y7 hf hyL7 hyR7 H locs ls hS hl
  obtain ⟨x1, mm⟩ := st
  have hf : fX12_laysFits_b7 (eS E) x0 x1 mm = some y7 := hf
  have hS : wS E s mm H locs := hS
  have hl : lv_has ls 5 [(0, .ref x0), (1, .int x1)] := hl
  unfold fX12_laysFits_b7 at hf
  have hj147 : ∀ (x1 : Int32) (mm : Mem) (H : Heap) (locs : List Loc) (ls : Array Slot), fX12_laysFits_j147 (eS E) x0 x1 mm = some y7 → wS E s mm H locs → lv_has ls 5 [(0, .ref x0), (1, .int x1)] → W p l e R s m args below meth c H locs 0 0 Q (F0 m 147 ls []) := by
    intro x1 mm H locs ls hf hS hl
    unfold fX12_laysFits_j147 at hf
    obtain ⟨x1_3, e1⟩ : ∃ z : Int32, z = x1 + 1 := ⟨_, rfl⟩
    have hf := lt1_n e1 hf
    refine lv_iinc (v := x1_3) (lv' := [(1, .int x1_3), (0, .ref x0)]) hx hb dX12_laysFits_147 hl (k := 1) rfl (by rw [e1]; rfl) (by decide) rfl (fun ls hl => ?_)
    refine lv_goto (tgt := 7) hx hb dX12_laysFits_150 (by decide) ?_
    exact hyL7 _ (Option.some.inj hf).symm H locs ls hS (lv_sub hl [1, 0] rfl)
  refine lv_iload_n hx hb dX12_laysFits_7 rfl (lv_at hl 1 rfl) ?_
  refine lv_aload_n hx hb dX12_laysFits_8 rfl (lv_at hl 0 rfl) ?_
  obtain ⟨v4, h1, hf⟩ := bs hf
  refine am_gi X hS fl_X12_150 rfl h1 dX12_laysFits_9 ?_
  refine lv_icmp_ge (tgt := 153) hx hb dX12_laysFits_12 (by decide) (fun q5 => ?_) (fun q5 => ?_)
  · have hf := ifp hf q5
    obtain rfl : mm = ex7 := hyR7 _ (Option.some.inj hf).symm
    exact hj153 mm H locs ls hk7 hS (lv_sub hl [] rfl)
  · have hf := ifn hf q5
    refine lv_iconst (v := 0) hx hb dX12_laysFits_15 (by decide) ?_
    refine lv_topi (fun x2_6 e1 => ?_)
    have hf := lt1_n e1 hf
    refine lv_istore_n (lv' := [(2, .int x2_6), (0, .ref x0), (1, .int x1)]) hx hb dX12_laysFits_16 rfl hl (by decide) rfl (fun ls hl => ?_)
    obtain ⟨ex17, hl17, hk17⟩ := bs hf
    refine loop_W (P := fun st => ∀ (H : Heap) (locs : List Loc) (ls : Array Slot), wS E s st.2 H locs → lv_has ls 5 [(0, .ref x0), (1, .int x1), (2, .int st.1)] → W p l e R s m args below meth c H locs 0 0 Q (F0 m 17 ls [])) (ex := ex17) ?_ FU _ hl17 H locs ls hS (lv_sub hl [1, 2, 0] rfl)
    intro st y17 hf hyL17 hyR17 H locs ls hS hl
    obtain ⟨x2, mm⟩ := st
    have hf : fX12_laysFits_b17 (eS E) x0 x1 x2 mm = some y17 := hf
    have hS : wS E s mm H locs := hS
    have hl : lv_has ls 5 [(0, .ref x0), (1, .int x1), (2, .int x2)] := hl
    unfold fX12_laysFits_b17 at hf
    have hj141 : ∀ (x2 : Int32) (mm : Mem) (H : Heap) (locs : List Loc) (ls : Array Slot), fX12_laysFits_j141 (eS E) x0 x1 x2 mm = some y17 → wS E s mm H locs → lv_has ls 5 [(0, .ref x0), (1, .int x1), (2, .int x2)] → W p l e R s m args below meth c H locs 0 0 Q (F0 m 141 ls []) := by
      intro x2 mm H locs ls hf hS hl
      unfold fX12_laysFits_j141 at hf
      obtain ⟨x2_7, e1⟩ : ∃ z : Int32, z = x2 + 1 := ⟨_, rfl⟩
      have hf := lt1_n e1 hf
      refine lv_iinc (v := x2_7) (lv' := [(2, .int x2_7), (0, .ref x0), (1, .int x1)]) hx hb dX12_laysFits_141 hl (k := 2) rfl (by rw [e1]; rfl) (by decide) rfl (fun ls hl => ?_)
      refine lv_goto (tgt := 17) hx hb dX12_laysFits_144 (by decide) ?_
      exact hyL17 _ (Option.some.inj hf).symm H locs ls hS (lv_sub hl [1, 2, 0] rfl)
    have hj104 : ∀ (x2 : Int32) (x3 : Int32) (mm : Mem) (H : Heap) (locs : List Loc) (ls : Array Slot), fX12_laysFits_j104 (eS E) x0 x1 x2 x3 mm = some y17 → wS E s mm H locs → lv_has ls 5 [(0, .ref x0), (1, .int x1), (2, .int x2), (3, .int x3)] → W p l e R s m args below meth c H locs 0 0 Q (F0 m 104 ls []) := by
      intro x2 x3 mm H locs ls hf hS hl
      unfold fX12_laysFits_j104 at hf
      refine lv_iload_n hx hb dX12_laysFits_104 rfl (lv_at hl 3 rfl) ?_
      refine lv_if_ne (tgt := 111) hx hb dX12_laysFits_105 (by decide) (fun q8 => ?_) (fun q8 => ?_)
      · have hf := ifn hf q8
        refine lv_aload_n hx hb dX12_laysFits_111 rfl (lv_at hl 0 rfl) ?_
        obtain ⟨a9, h1, hf⟩ := bs hf
        refine am_gr X hS fl_X12_77 rfl h1 dX12_laysFits_112 ?_
        refine lv_aload_n hx hb dX12_laysFits_115 rfl (lv_at hl 0 rfl) ?_
        obtain ⟨v10, h1, hf⟩ := bs hf
        refine am_gi X hS fl_X12_409 rfl h1 dX12_laysFits_116 ?_
        refine lv_iload_n hx hb dX12_laysFits_119 rfl (lv_at hl 1 rfl) ?_
        obtain ⟨m11, h1, hf⟩ := bs hf
        refine am_ast X hS h1 dX12_laysFits_120 (fun H locs hS => ?_)
        refine lv_aload_n hx hb dX12_laysFits_121 rfl (lv_at hl 0 rfl) ?_
        obtain ⟨a12, h1, hf⟩ := bs hf
        refine am_gr X hS fl_X12_80 rfl h1 dX12_laysFits_122 ?_
        refine lv_aload_n hx hb dX12_laysFits_125 rfl (lv_at hl 0 rfl) ?_
        obtain ⟨v13, h1, hf⟩ := bs hf
        refine am_gi X hS fl_X12_409 rfl h1 dX12_laysFits_126 ?_
        refine lv_iload_n hx hb dX12_laysFits_129 rfl (lv_at hl 2 rfl) ?_
        obtain ⟨m14, h1, hf⟩ := bs hf
        refine am_ast X hS h1 dX12_laysFits_130 (fun H locs hS => ?_)
        refine lv_aload_n hx hb dX12_laysFits_131 rfl (lv_at hl 0 rfl) ?_
        refine lv_dup hx hb dX12_laysFits_132 rfl ?_
        obtain ⟨v15, h1, hf⟩ := bs hf
        refine am_gi X hS fl_X12_409 rfl h1 dX12_laysFits_133 ?_
        refine lv_iconst (v := 1) hx hb dX12_laysFits_136 (by decide) ?_
        refine lv_iadd hx hb dX12_laysFits_137 ?_
        obtain ⟨m16, h1, hf⟩ := bs hf
        refine am_pi X hS fp_X12_409 rfl h1 dX12_laysFits_138 (fun H locs hS => ?_)
        exact hj141 x2 m16 H locs ls hf hS (lv_sub hl [0, 1, 2] rfl)
      · have hf := ifp hf q8
        refine lv_goto (tgt := 141) hx hb dX12_laysFits_108 (by decide) ?_
        exact hj141 x2 mm H locs ls hf hS (lv_sub hl [0, 1, 2] rfl)
    refine lv_iload_n hx hb dX12_laysFits_17 rfl (lv_at hl 2 rfl) ?_
    refine lv_aload_n hx hb dX12_laysFits_18 rfl (lv_at hl 0 rfl) ?_
    obtain ⟨v17, h1, hf⟩ := bs hf
    refine am_gi X hS fl_X12_153 rfl h1 dX12_laysFits_19 ?_
    refine lv_icmp_ge (tgt := 147) hx hb dX12_laysFits_22 (by decide) (fun q18 => ?_) (fun q18 => ?_)
    · have hf := ifp hf q18
      obtain rfl : mm = ex17 := hyR17 _ (Option.some.inj hf).symm
      exact hj147 x1 mm H locs ls hk17 hS (lv_sub hl [0, 1] rfl)
    · have hf := ifn hf q18
      refine lv_aload_n hx hb dX12_laysFits_25 rfl (lv_at hl 0 rfl) ?_
      refine lv_iload_n hx hb dX12_laysFits_26 rfl (lv_at hl 2 rfl) ?_
      obtain ⟨u0, h0, hf⟩ := bs hf
      obtain ⟨_, hrc⟩ := isO_n h0
      obtain ⟨v19, h1, hf⟩ := bs hf
      refine am_endi hS (am_runV (As := [.int x2]) X (hml.trans hl.1.symm) hS (cX12_joinsAll_ok (l := l) (E := E) h1) mv_X12_335 hrc rfl ⟨Nat.le_trans (by decide) hR.1, Nat.le_trans (by decide) hR.2⟩ ⟨Nat.zero_le _, Nat.zero_le _⟩ rfl rfl (Nat.le_of_ble_eq_true rfl) dX12_laysFits_27) (fun H locs hS => ?_)
      refine lv_if_eq (tgt := 36) hx hb dX12_laysFits_30 (by decide) (fun q20 => ?_) (fun q20 => ?_)
      · have hf := ifp hf q20
        refine lv_aload_n hx hb dX12_laysFits_36 rfl (lv_at hl 0 rfl) ?_
        obtain ⟨u0, h0, hf⟩ := bs hf
        obtain ⟨_, hrc⟩ := isO_n h0
        obtain ⟨m21, h1, hf⟩ := bs hf
        refine am_endv hS (am_runV (As := []) X (hml.trans hl.1.symm) hS (cX12_take_ok (l := l) (E := E) h1) mv_X12_301 hrc rfl ⟨Nat.le_trans (by decide) hR.1, Nat.le_trans (by decide) hR.2⟩ ⟨Nat.zero_le _, Nat.zero_le _⟩ rfl rfl (Nat.le_of_ble_eq_true rfl) dX12_laysFits_37) (fun H locs hS => ?_)
        refine lv_aload_n hx hb dX12_laysFits_40 rfl (lv_at hl 0 rfl) ?_
        refine lv_iload_n hx hb dX12_laysFits_41 rfl (lv_at hl 1 rfl) ?_
        refine lv_iload_n hx hb dX12_laysFits_42 rfl (lv_at hl 2 rfl) ?_
        obtain ⟨u0, h0, hf⟩ := bs hf
        obtain ⟨_, hrc⟩ := isO_n h0
        obtain ⟨v22, m23, h1, hf⟩ := bs2 hf
        refine am_endi hS (am_runV (As := [.int x1, .int x2]) X (hml.trans hl.1.symm) hS (cX12_isParted_ok (l := l) (E := E) h1) mv_X12_345 hrc rfl ⟨Nat.le_trans (by decide) hR.1, Nat.le_trans (by decide) hR.2⟩ ⟨Nat.zero_le _, Nat.zero_le _⟩ rfl rfl (Nat.le_of_ble_eq_true rfl) dX12_laysFits_43) (fun H locs hS => ?_)
        refine lv_pop hx hb dX12_laysFits_46 rfl ?_
        refine lv_iconst (v := 1) hx hb dX12_laysFits_47 (by decide) ?_
        refine lv_topi (fun x3_24 e1 => ?_)
        have hf := lt1_n e1 hf
        refine lv_istore_n (lv' := [(3, .int x3_24), (0, .ref x0), (1, .int x1), (2, .int x2)]) hx hb dX12_laysFits_48 rfl hl (by decide) rfl (fun ls hl => ?_)
        refine lv_iconst (v := 0) hx hb dX12_laysFits_49 (by decide) ?_
        refine lv_topi (fun x4_25 e1 => ?_)
        have hf := lt1_n e1 hf
        refine lv_istore (lv' := [(4, .int x4_25), (3, .int x3_24), (0, .ref x0), (1, .int x1), (2, .int x2)]) hx hb dX12_laysFits_50 hl (by decide) rfl (fun ls hl => ?_)
        obtain ⟨ex52, hl52, hk52⟩ := bs hf
        refine loop_W (P := fun st => ∀ (H : Heap) (locs : List Loc) (ls : Array Slot), wS E s m23 H locs → lv_has ls 5 [(0, .ref x0), (1, .int x1), (2, .int x2), (3, .int st.1), (4, .int st.2)] → W p l e R s m args below meth c H locs 0 0 Q (F0 m 52 ls [])) (ex := ex52) ?_ FU _ hl52 H locs ls hS (lv_sub hl [2, 3, 4, 1, 0] rfl)
        intro st y52 hf hyL52 hyR52 H locs ls hS hl
        obtain ⟨x3, x4⟩ := st
        obtain ⟨mm, rfl⟩ : ∃ z, z = m23 := ⟨_, rfl⟩
        have hf : fX12_laysFits_b52 (eS E) x0 x1 x2 x3 x4 mm = some y52 := hf
        have hS : wS E s mm H locs := hS
        have hl : lv_has ls 5 [(0, .ref x0), (1, .int x1), (2, .int x2), (3, .int x3), (4, .int x4)] := hl
        unfold fX12_laysFits_b52 at hf
        have hj97 : ∀ (x4 : Int32) (s0 : Int32) (H : Heap) (locs : List Loc) (ls : Array Slot), fX12_laysFits_j97 (eS E) x0 x1 x2 x4 s0 mm = some y52 → wS E s mm H locs → lv_has ls 5 [(0, .ref x0), (1, .int x1), (2, .int x2), (4, .int x4)] → W p l e R s m args below meth c H locs 0 0 Q (F0 m 97 ls [.int s0]) := by
          intro x4 s0 H locs ls hf hS hl
          unfold fX12_laysFits_j97 at hf
          refine lv_topi (fun x3_26 e1 => ?_)
          have hf := lt1_n e1 hf
          refine lv_istore_n (lv' := [(3, .int x3_26), (0, .ref x0), (1, .int x1), (2, .int x2), (4, .int x4)]) hx hb dX12_laysFits_97 rfl hl (by decide) rfl (fun ls hl => ?_)
          obtain ⟨x4_27, e1⟩ : ∃ z : Int32, z = x4 + 1 := ⟨_, rfl⟩
          have hf := lt1_n e1 hf
          refine lv_iinc (v := x4_27) (lv' := [(4, .int x4_27), (3, .int x3_26), (0, .ref x0), (1, .int x1), (2, .int x2)]) hx hb dX12_laysFits_98 hl (k := 4) rfl (by rw [e1]; rfl) (by decide) rfl (fun ls hl => ?_)
          refine lv_goto (tgt := 52) hx hb dX12_laysFits_101 (by decide) ?_
          exact hyL52 _ (Option.some.inj hf).symm H locs ls hS (lv_sub hl [2, 3, 4, 1, 0] rfl)
        have hj96 : ∀ (x4 : Int32) (H : Heap) (locs : List Loc) (ls : Array Slot), fX12_laysFits_j96 (eS E) x0 x1 x2 x4 mm = some y52 → wS E s mm H locs → lv_has ls 5 [(0, .ref x0), (1, .int x1), (2, .int x2), (4, .int x4)] → W p l e R s m args below meth c H locs 0 0 Q (F0 m 96 ls []) := by
          intro x4 H locs ls hf hS hl
          unfold fX12_laysFits_j96 at hf
          refine lv_iconst (v := 0) hx hb dX12_laysFits_96 (by decide) ?_
          exact hj97 x4 0 H locs ls hf hS hl
        refine lv_iload hx hb dX12_laysFits_52 (lv_at hl 4 rfl) ?_
        refine lv_aload_n hx hb dX12_laysFits_54 rfl (lv_at hl 0 rfl) ?_
        obtain ⟨v28, h1, hf⟩ := bs hf
        refine am_gi X hS fl_X12_166 rfl h1 dX12_laysFits_55 ?_
        refine lv_icmp_ge (tgt := 104) hx hb dX12_laysFits_58 (by decide) (fun q29 => ?_) (fun q29 => ?_)
        · have hf := ifp hf q29
          obtain rfl : x3 = ex52 := hyR52 _ (Option.some.inj hf).symm
          exact hj104 x2 x3 mm H locs ls hk52 hS (lv_sub hl [0, 1, 2, 3] rfl)
        · have hf := ifn hf q29
          refine lv_iload_n hx hb dX12_laysFits_61 rfl (lv_at hl 3 rfl) ?_
          refine lv_if_eq (tgt := 96) hx hb dX12_laysFits_62 (by decide) (fun q30 => ?_) (fun q30 => ?_)
          · have hf := ifp hf q30
            exact hj96 x4 H locs ls hf hS (lv_sub hl [0, 1, 2, 4] rfl)
          · have hf := ifn hf q30
            refine lv_aload_n hx hb dX12_laysFits_65 rfl (lv_at hl 0 rfl) ?_
            refine lv_aload_n hx hb dX12_laysFits_66 rfl (lv_at hl 0 rfl) ?_
            obtain ⟨a31, h1, hf⟩ := bs hf
            refine am_gr X hS fl_X12_74 rfl h1 dX12_laysFits_67 ?_
            refine lv_iconst (v := 2) hx hb dX12_laysFits_70 (by decide) ?_
            refine lv_iload hx hb dX12_laysFits_71 (lv_at hl 4 rfl) ?_
            refine lv_imul hx hb dX12_laysFits_73 ?_
            obtain ⟨v32, h1, hf⟩ := bs hf
            refine am_ald X hS h1 dX12_laysFits_74 ?_
            obtain ⟨u0, h0, hf⟩ := bs hf
            obtain ⟨_, hrc⟩ := isO_n h0
            obtain ⟨v33, h1, hf⟩ := bs hf
            refine am_endi hS (am_runV (As := [.int v32]) X (hml.trans hl.1.symm) hS (cX12_atPlace_ok (l := l) (E := E) h1) mv_X12_392 hrc rfl ⟨Nat.le_trans (by decide) hR.1, Nat.le_trans (by decide) hR.2⟩ ⟨Nat.zero_le _, Nat.zero_le _⟩ rfl rfl (Nat.le_of_ble_eq_true rfl) dX12_laysFits_75) (fun H locs hS => ?_)
            refine lv_aload_n hx hb dX12_laysFits_78 rfl (lv_at hl 0 rfl) ?_
            obtain ⟨a34, h1, hf⟩ := bs hf
            refine am_gr X hS fl_X12_74 rfl h1 dX12_laysFits_79 ?_
            refine lv_iconst (v := 2) hx hb dX12_laysFits_82 (by decide) ?_
            refine lv_iload hx hb dX12_laysFits_83 (lv_at hl 4 rfl) ?_
            refine lv_imul hx hb dX12_laysFits_85 ?_
            refine lv_iconst (v := 1) hx hb dX12_laysFits_86 (by decide) ?_
            refine lv_iadd hx hb dX12_laysFits_87 ?_
            obtain ⟨v35, h1, hf⟩ := bs hf
            refine am_ald X hS h1 dX12_laysFits_88 ?_
            refine lv_icmp_ne (tgt := 96) hx hb dX12_laysFits_89 (by decide) (fun q36 => ?_) (fun q36 => ?_)
            · have hf := ifn hf q36
              exact hj96 x4 H locs ls hf hS (lv_sub hl [0, 1, 2, 4] rfl)
            · have hf := ifp hf q36
              refine lv_iconst (v := 1) hx hb dX12_laysFits_92 (by decide) ?_
              refine lv_goto (tgt := 97) hx hb dX12_laysFits_93 (by decide) ?_
              exact hj97 x4 1 H locs ls hf hS (lv_sub hl [0, 1, 2, 4] rfl)
      · have hf := ifn hf q20
        refine lv_goto (tgt := 141) hx hb dX12_laysFits_33 (by decide) ?_
        exact hj141 x2 mm H locs ls hf hS hl
set_option maxRecDepth 100000 in
theorem cX12_laysFits_ok {l : Launch} {E : Ev} {x0 : Nat} {mm : Mem} {mm1 : Mem} (hf : fX12_laysFits (eS E) x0 mm = some mm1) : CtV l yX12_laysFits cX12_laysFits 5 none 6 141 E [.ref x0] mm mm1 := by
  refine Met.ofW (cc := cX12_laysFits) (maxL := 5) (ret := none) (by decide) rfl ?_
  intro p e s m args below meth c s₁ B hml hv
  obtain ⟨rfl, X, hS, hr, hlocks⟩ := am_in B hv
  refine am_entry (Nat.le_of_ble_eq_true rfl) (fun ls hl => ?_)
  exact wX12_laysFits X hml ⟨Nat.le_refl _, Nat.le_refl _⟩ hf (fun pc H locs ls hd hS => am_rv X hS hr hd hlocks) _ _ ls hS hl
set_option maxHeartbeats 4000000 in
set_option maxRecDepth 100000 in
theorem wX12_fits {p : Program} {l : Launch} {e : Env} {R : Room} {s : State} {m : MethodId} {args : Array Value} {below : List Frame} {meth : Method} {c : Code} {Q : State → Prop} {E : Ev} (X : Cx p s m args c cX12_fits RX12 E) (hml : c.maxLocals = 2) (hR : 7 ≤ R.frames ∧ 165 ≤ R.locals) {x0 : Nat} {x1 : Int32} {mm : Mem} {r : Int32} {mm1 : Mem} (hf : fX12_fits (eS E) x0 x1 mm = some (r, mm1)) (hret : ∀ (pc : Nat) (H : Heap) (locs : List Loc) (ls : Array Slot), narrow .int (.int r) = .int r → decode cX12_fits pc = .ok (.ireturn, 1) → wS E s mm1 H locs → W p l e R s m args below meth c H locs 0 0 Q (F0 m pc ls [.int r])) : ∀ (H : Heap) (locs : List Loc) (ls : Array Slot), wS E s mm H locs → lv_has ls 2 [(0, .ref x0), (1, .int x1)] → W p l e R s m args below meth c H locs 0 0 Q (F0 m 0 ls []) := by
  have hx := X.1
  have hb := X.2.1
  unfold fX12_fits at hf
  have hj64 : ∀ (s0 : Int32) (mm : Mem) (H : Heap) (locs : List Loc) (ls : Array Slot), fX12_fits_j64 (eS E) s0 mm = some (r, mm1) → wS E s mm H locs → lv_has ls 2 [] → W p l e R s m args below meth c H locs 0 0 Q (F0 m 64 ls [.int s0]) := by
    intro s0 mm H locs ls hf hS hl
    unfold fX12_fits_j64 at hf
    cases hf
    exact hret _ _ _ _ rfl dX12_fits_64 hS
  intro H locs ls hS hl
  refine lv_aload_n hx hb dX12_fits_0 rfl (lv_at hl 0 rfl) ?_
  refine lv_iconst (v := 0) hx hb dX12_fits_1 (by decide) ?_
  obtain ⟨m1, h1, hf⟩ := bs hf
  refine am_pi X hS fp_X12_3 rfl h1 dX12_fits_2 (fun H locs hS => ?_)
  refine lv_aload_n hx hb dX12_fits_5 rfl (lv_at hl 0 rfl) ?_
  refine lv_iload_n hx hb dX12_fits_6 rfl (lv_at hl 1 rfl) ?_
  refine lv_iconst (v := 0) hx hb dX12_fits_7 (by decide) ?_
  refine lv_iconst (v := 1) hx hb dX12_fits_8 (by decide) ?_
  obtain ⟨v2, h1, hf⟩ := bs hf
  refine am_endi hS (am_runS (As := [.int x1, .int 0, .int 1]) X (hml.trans hl.1.symm) hS (cX12_within_ok (l := l) (E := E) h1) ms_X12_368 ⟨Nat.le_trans (by decide) hR.1, Nat.le_trans (by decide) hR.2⟩ ⟨Nat.zero_le _, Nat.zero_le _⟩ rfl rfl (Nat.le_of_ble_eq_true rfl) dX12_fits_9) (fun H locs hS => ?_)
  refine lv_iconst (v := 1) hx hb dX12_fits_12 (by decide) ?_
  refine lv_iconst (v := 1) hx hb dX12_fits_13 (by decide) ?_
  obtain ⟨u0, h0, hf⟩ := bs hf
  obtain ⟨_, hrc⟩ := isO_n h0
  obtain ⟨v3, m4, h1, hf⟩ := bs2 hf
  refine am_endi hS (am_runV (As := [.int v2, .int 1, .int 1]) X (hml.trans hl.1.symm) hS (cX12_may_ok (l := l) (E := E) h1) mv_X12_190 hrc rfl ⟨Nat.le_trans (by decide) hR.1, Nat.le_trans (by decide) hR.2⟩ ⟨Nat.zero_le _, Nat.zero_le _⟩ rfl rfl (Nat.le_of_ble_eq_true rfl) dX12_fits_14) (fun H locs hS => ?_)
  refine lv_if_ne (tgt := 22) hx hb dX12_fits_17 (by decide) (fun q5 => ?_) (fun q5 => ?_)
  · have hf := ifn hf q5
    refine lv_aload_n hx hb dX12_fits_22 rfl (lv_at hl 0 rfl) ?_
    obtain ⟨u0, h0, hf⟩ := bs hf
    obtain ⟨_, hrc⟩ := isO_n h0
    obtain ⟨m6, h1, hf⟩ := bs hf
    refine am_endv hS (am_runV (As := []) X (hml.trans hl.1.symm) hS (cX12_laysFits_ok (l := l) (E := E) h1) mv_X12_412 hrc rfl ⟨Nat.le_trans (by decide) hR.1, Nat.le_trans (by decide) hR.2⟩ ⟨Nat.zero_le _, Nat.zero_le _⟩ rfl rfl (Nat.le_of_ble_eq_true rfl) dX12_fits_23) (fun H locs hS => ?_)
    refine lv_iload_n hx hb dX12_fits_26 rfl (lv_at hl 1 rfl) ?_
    refine lv_if_ne (tgt := 37) hx hb dX12_fits_27 (by decide) (fun q7 => ?_) (fun q7 => ?_)
    · have hf := ifn hf q7
      refine lv_aload_n hx hb dX12_fits_37 rfl (lv_at hl 0 rfl) ?_
      obtain ⟨v8, h1, hf⟩ := bs hf
      refine am_gi X hS fl_X12_409 rfl h1 dX12_fits_38 ?_
      refine lv_if_ne (tgt := 48) hx hb dX12_fits_41 (by decide) (fun q9 => ?_) (fun q9 => ?_)
      · have hf := ifn hf q9
        refine lv_bipush (v := 10) hx hb dX12_fits_48 (by decide) ?_
        refine lv_aload_n hx hb dX12_fits_50 rfl (lv_at hl 0 rfl) ?_
        obtain ⟨a10, h1, hf⟩ := bs hf
        refine am_gr X hS fl_X12_77 rfl h1 dX12_fits_51 ?_
        refine lv_iconst (v := 0) hx hb dX12_fits_54 (by decide) ?_
        obtain ⟨v11, h1, hf⟩ := bs hf
        refine am_ald X hS h1 dX12_fits_55 ?_
        refine lv_imul hx hb dX12_fits_56 ?_
        refine lv_aload_n hx hb dX12_fits_57 rfl (lv_at hl 0 rfl) ?_
        obtain ⟨a12, h1, hf⟩ := bs hf
        refine am_gr X hS fl_X12_80 rfl h1 dX12_fits_58 ?_
        refine lv_iconst (v := 0) hx hb dX12_fits_61 (by decide) ?_
        obtain ⟨v13, h1, hf⟩ := bs hf
        refine am_ald X hS h1 dX12_fits_62 ?_
        refine lv_iadd hx hb dX12_fits_63 ?_
        exact hj64 ((10 * v11) + v13) m6 H locs ls hf hS (lv_sub hl [] rfl)
      · have hf := ifp hf q9
        refine lv_iconst (v := (-1)) hx hb dX12_fits_44 (by decide) ?_
        refine lv_goto (tgt := 64) hx hb dX12_fits_45 (by decide) ?_
        exact hj64 (-1) m6 H locs ls hf hS (lv_sub hl [] rfl)
    · have hf := ifp hf q7
      refine lv_aload_n hx hb dX12_fits_30 rfl (lv_at hl 0 rfl) ?_
      obtain ⟨v14, h1, hf⟩ := bs hf
      refine am_gi X hS fl_X12_409 rfl h1 dX12_fits_31 ?_
      refine lv_goto (tgt := 64) hx hb dX12_fits_34 (by decide) ?_
      exact hj64 v14 m6 H locs ls hf hS (lv_sub hl [] rfl)
  · have hf := ifp hf q5
    refine lv_iconst (v := 0) hx hb dX12_fits_20 (by decide) ?_
    cases hf
    exact hret _ _ _ _ rfl dX12_fits_21 hS
set_option maxRecDepth 100000 in
theorem cX12_fits_ok {l : Launch} {E : Ev} {x0 : Nat} {x1 : Int32} {mm : Mem} {r : Int32} {mm1 : Mem} (hf : fX12_fits (eS E) x0 x1 mm = some (r, mm1)) : CtI l yX12_fits cX12_fits 2 (some .int) 7 165 E [.ref x0, .int x1] mm r mm1 := by
  refine Met.ofW (cc := cX12_fits) (maxL := 2) (ret := (some .int)) (by decide) rfl ?_
  intro p e s m args below meth c s₁ B hml hv
  obtain ⟨rfl, X, hS, hr, hlocks⟩ := am_in B hv
  refine am_entry (Nat.le_of_ble_eq_true rfl) (fun ls hl => ?_)
  exact wX12_fits X hml ⟨Nat.le_refl _, Nat.le_refl _⟩ hf (fun pc H locs ls hn hd hS => am_ri X hS hr hn hd hlocks) _ _ ls hS hl
set_option maxHeartbeats 4000000 in
set_option maxRecDepth 100000 in
theorem wX12_worstAt {p : Program} {l : Launch} {e : Env} {R : Room} {s : State} {m : MethodId} {args : Array Value} {below : List Frame} {meth : Method} {c : Code} {Q : State → Prop} {E : Ev} (X : Cx p s m args c cX12_worstAt RX12 E) (hml : c.maxLocals = 6) (hR : 0 ≤ R.frames ∧ 0 ≤ R.locals) {x0 : Nat} {x1 : Int32} {mm : Mem} {r : Int32} (hf : fX12_worstAt (eS E) x0 x1 mm = some r) (hret : ∀ (pc : Nat) (H : Heap) (locs : List Loc) (ls : Array Slot), narrow .int (.int r) = .int r → decode cX12_worstAt pc = .ok (.ireturn, 1) → wS E s mm H locs → W p l e R s m args below meth c H locs 0 0 Q (F0 m pc ls [.int r])) : ∀ (H : Heap) (locs : List Loc) (ls : Array Slot), wS E s mm H locs → lv_has ls 6 [(0, .ref x0), (1, .int x1)] → W p l e R s m args below meth c H locs 0 0 Q (F0 m 0 ls []) := by
  have hx := X.1
  have hb := X.2.1
  unfold fX12_worstAt at hf
  have hj88 : ∀ (x2 : Int32) (H : Heap) (locs : List Loc) (ls : Array Slot), fX12_worstAt_j88 (eS E) x2 mm = some r → wS E s mm H locs → lv_has ls 6 [(2, .int x2)] → W p l e R s m args below meth c H locs 0 0 Q (F0 m 88 ls []) := by
    intro x2 H locs ls hf hS hl
    unfold fX12_worstAt_j88 at hf
    refine lv_iload_n hx hb dX12_worstAt_88 rfl (lv_at hl 0 rfl) ?_
    cases hf
    exact hret _ _ _ _ rfl dX12_worstAt_89 hS
  intro H locs ls hS hl
  refine lv_iconst (v := 0) hx hb dX12_worstAt_0 (by decide) ?_
  refine lv_topi (fun x2_1 e1 => ?_)
  have hf := lt1_n e1 hf
  refine lv_istore_n (lv' := [(2, .int x2_1), (0, .ref x0), (1, .int x1)]) hx hb dX12_worstAt_1 rfl hl (by decide) rfl (fun ls hl => ?_)
  refine lv_iconst (v := 0) hx hb dX12_worstAt_2 (by decide) ?_
  refine lv_topi (fun x3_2 e1 => ?_)
  have hf := lt1_n e1 hf
  refine lv_istore_n (lv' := [(3, .int x3_2), (2, .int x2_1), (0, .ref x0), (1, .int x1)]) hx hb dX12_worstAt_3 rfl hl (by decide) rfl (fun ls hl => ?_)
  obtain ⟨ex4, hl4, hk4⟩ := bs hf
  refine loop_W (P := fun st => ∀ (H : Heap) (locs : List Loc) (ls : Array Slot), wS E s mm H locs → lv_has ls 6 [(0, .ref x0), (1, .int x1), (2, .int st.1), (3, .int st.2)] → W p l e R s m args below meth c H locs 0 0 Q (F0 m 4 ls [])) (ex := ex4) ?_ FU _ hl4 H locs ls hS (lv_sub hl [2, 3, 1, 0] rfl)
  intro st y4 hf hyL4 hyR4 H locs ls hS hl
  obtain ⟨x2, x3⟩ := st
  have hf : fX12_worstAt_b4 (eS E) x0 x1 x2 x3 mm = some y4 := hf
  have hS : wS E s mm H locs := hS
  have hl : lv_has ls 6 [(0, .ref x0), (1, .int x1), (2, .int x2), (3, .int x3)] := hl
  unfold fX12_worstAt_b4 at hf
  have hj81 : ∀ (x3 : Int32) (s0 : Int32) (H : Heap) (locs : List Loc) (ls : Array Slot), fX12_worstAt_j81 (eS E) x0 x1 x3 s0 mm = some y4 → wS E s mm H locs → lv_has ls 6 [(0, .ref x0), (1, .int x1), (3, .int x3)] → W p l e R s m args below meth c H locs 0 0 Q (F0 m 81 ls [.int s0]) := by
    intro x3 s0 H locs ls hf hS hl
    unfold fX12_worstAt_j81 at hf
    refine lv_topi (fun x2_3 e1 => ?_)
    have hf := lt1_n e1 hf
    refine lv_istore_n (lv' := [(2, .int x2_3), (0, .ref x0), (1, .int x1), (3, .int x3)]) hx hb dX12_worstAt_81 rfl hl (by decide) rfl (fun ls hl => ?_)
    obtain ⟨x3_4, e1⟩ : ∃ z : Int32, z = x3 + 1 := ⟨_, rfl⟩
    have hf := lt1_n e1 hf
    refine lv_iinc (v := x3_4) (lv' := [(3, .int x3_4), (2, .int x2_3), (0, .ref x0), (1, .int x1)]) hx hb dX12_worstAt_82 hl (k := 3) rfl (by rw [e1]; rfl) (by decide) rfl (fun ls hl => ?_)
    refine lv_goto (tgt := 4) hx hb dX12_worstAt_85 (by decide) ?_
    exact hyL4 _ (Option.some.inj hf).symm H locs ls hS (lv_sub hl [2, 3, 1, 0] rfl)
  have hj69 : ∀ (x2 : Int32) (x3 : Int32) (x4 : Int32) (H : Heap) (locs : List Loc) (ls : Array Slot), fX12_worstAt_j69 (eS E) x0 x1 x2 x3 x4 mm = some y4 → wS E s mm H locs → lv_has ls 6 [(0, .ref x0), (1, .int x1), (2, .int x2), (3, .int x3), (4, .int x4)] → W p l e R s m args below meth c H locs 0 0 Q (F0 m 69 ls []) := by
    intro x2 x3 x4 H locs ls hf hS hl
    unfold fX12_worstAt_j69 at hf
    refine lv_iload hx hb dX12_worstAt_69 (lv_at hl 4 rfl) ?_
    refine lv_iload_n hx hb dX12_worstAt_71 rfl (lv_at hl 2 rfl) ?_
    refine lv_icmp_le (tgt := 80) hx hb dX12_worstAt_72 (by decide) (fun q5 => ?_) (fun q5 => ?_)
    · have hf := ifp hf q5
      refine lv_iload_n hx hb dX12_worstAt_80 rfl (lv_at hl 2 rfl) ?_
      exact hj81 x3 x2 H locs ls hf hS (lv_sub hl [0, 1, 3] rfl)
    · have hf := ifn hf q5
      refine lv_iload hx hb dX12_worstAt_75 (lv_at hl 4 rfl) ?_
      refine lv_goto (tgt := 81) hx hb dX12_worstAt_77 (by decide) ?_
      exact hj81 x3 x4 H locs ls hf hS (lv_sub hl [0, 1, 3] rfl)
  refine lv_iload_n hx hb dX12_worstAt_4 rfl (lv_at hl 3 rfl) ?_
  refine lv_aload_n hx hb dX12_worstAt_5 rfl (lv_at hl 0 rfl) ?_
  obtain ⟨v6, h1, hf⟩ := bs hf
  refine am_gi X hS fl_X12_409 rfl h1 dX12_worstAt_6 ?_
  refine lv_icmp_ge (tgt := 88) hx hb dX12_worstAt_9 (by decide) (fun q7 => ?_) (fun q7 => ?_)
  · have hf := ifp hf q7
    obtain rfl : x2 = ex4 := hyR4 _ (Option.some.inj hf).symm
    exact hj88 x2 H locs ls hk4 hS (lv_sub hl [2] rfl)
  · have hf := ifn hf q7
    refine lv_iconst (v := 0) hx hb dX12_worstAt_12 (by decide) ?_
    refine lv_topi (fun x4_8 e1 => ?_)
    have hf := lt1_n e1 hf
    refine lv_istore (lv' := [(4, .int x4_8), (0, .ref x0), (1, .int x1), (2, .int x2), (3, .int x3)]) hx hb dX12_worstAt_13 hl (by decide) rfl (fun ls hl => ?_)
    refine lv_iconst (v := 0) hx hb dX12_worstAt_15 (by decide) ?_
    refine lv_topi (fun x5_9 e1 => ?_)
    have hf := lt1_n e1 hf
    refine lv_istore (lv' := [(5, .int x5_9), (4, .int x4_8), (0, .ref x0), (1, .int x1), (2, .int x2), (3, .int x3)]) hx hb dX12_worstAt_16 hl (by decide) rfl (fun ls hl => ?_)
    obtain ⟨ex18, hl18, hk18⟩ := bs hf
    refine loop_W (P := fun st => ∀ (H : Heap) (locs : List Loc) (ls : Array Slot), wS E s mm H locs → lv_has ls 6 [(0, .ref x0), (1, .int x1), (2, .int x2), (3, .int x3), (4, .int st.1), (5, .int st.2)] → W p l e R s m args below meth c H locs 0 0 Q (F0 m 18 ls [])) (ex := ex18) ?_ FU _ hl18 H locs ls hS (lv_sub hl [2, 3, 4, 5, 1, 0] rfl)
    intro st y18 hf hyL18 hyR18 H locs ls hS hl
    obtain ⟨x4, x5⟩ := st
    have hf : fX12_worstAt_b18 (eS E) x0 x1 x2 x3 x4 x5 mm = some y18 := hf
    have hS : wS E s mm H locs := hS
    have hl : lv_has ls 6 [(0, .ref x0), (1, .int x1), (2, .int x2), (3, .int x3), (4, .int x4), (5, .int x5)] := hl
    unfold fX12_worstAt_b18 at hf
    have hj60 : ∀ (x5 : Int32) (s0 : Int32) (s1 : Int32) (H : Heap) (locs : List Loc) (ls : Array Slot), fX12_worstAt_j60 (eS E) x0 x1 x2 x3 x5 s0 s1 mm = some y18 → wS E s mm H locs → lv_has ls 6 [(0, .ref x0), (1, .int x1), (2, .int x2), (3, .int x3), (5, .int x5)] → W p l e R s m args below meth c H locs 0 0 Q (F0 m 60 ls [.int s1, .int s0]) := by
      intro x5 s0 s1 H locs ls hf hS hl
      unfold fX12_worstAt_j60 at hf
      refine lv_iadd hx hb dX12_worstAt_60 ?_
      refine lv_topi (fun x4_10 e1 => ?_)
      have hf := lt1_n e1 hf
      refine lv_istore (lv' := [(4, .int x4_10), (0, .ref x0), (1, .int x1), (2, .int x2), (3, .int x3), (5, .int x5)]) hx hb dX12_worstAt_61 hl (by decide) rfl (fun ls hl => ?_)
      obtain ⟨x5_11, e1⟩ : ∃ z : Int32, z = x5 + 1 := ⟨_, rfl⟩
      have hf := lt1_n e1 hf
      refine lv_iinc (v := x5_11) (lv' := [(5, .int x5_11), (4, .int x4_10), (0, .ref x0), (1, .int x1), (2, .int x2), (3, .int x3)]) hx hb dX12_worstAt_63 hl (k := 5) rfl (by rw [e1]; rfl) (by decide) rfl (fun ls hl => ?_)
      refine lv_goto (tgt := 18) hx hb dX12_worstAt_66 (by decide) ?_
      exact hyL18 _ (Option.some.inj hf).symm H locs ls hS (lv_sub hl [2, 3, 4, 5, 1, 0] rfl)
    refine lv_iload hx hb dX12_worstAt_18 (lv_at hl 5 rfl) ?_
    refine lv_aload_n hx hb dX12_worstAt_20 rfl (lv_at hl 0 rfl) ?_
    obtain ⟨v12, h1, hf⟩ := bs hf
    refine am_gi X hS fl_X12_409 rfl h1 dX12_worstAt_21 ?_
    refine lv_icmp_ge (tgt := 69) hx hb dX12_worstAt_24 (by decide) (fun q13 => ?_) (fun q13 => ?_)
    · have hf := ifp hf q13
      obtain rfl : x4 = ex18 := hyR18 _ (Option.some.inj hf).symm
      exact hj69 x2 x3 x4 H locs ls hk18 hS (lv_sub hl [0, 1, 2, 3, 4] rfl)
    · have hf := ifn hf q13
      refine lv_iload hx hb dX12_worstAt_27 (lv_at hl 4 rfl) ?_
      refine lv_aload_n hx hb dX12_worstAt_29 rfl (lv_at hl 0 rfl) ?_
      obtain ⟨a14, h1, hf⟩ := bs hf
      refine am_gr X hS fl_X12_83 rfl h1 dX12_worstAt_30 ?_
      refine lv_bipush (v := 48) hx hb dX12_worstAt_33 (by decide) ?_
      refine lv_iload_n hx hb dX12_worstAt_35 rfl (lv_at hl 1 rfl) ?_
      refine lv_imul hx hb dX12_worstAt_36 ?_
      refine lv_iload hx hb dX12_worstAt_37 (lv_at hl 5 rfl) ?_
      refine lv_iadd hx hb dX12_worstAt_39 ?_
      obtain ⟨v15, h1, hf⟩ := bs hf
      refine am_ald X hS h1 dX12_worstAt_40 ?_
      refine lv_aload_n hx hb dX12_worstAt_41 rfl (lv_at hl 0 rfl) ?_
      obtain ⟨a16, h1, hf⟩ := bs hf
      refine am_gr X hS fl_X12_83 rfl h1 dX12_worstAt_42 ?_
      refine lv_bipush (v := 48) hx hb dX12_worstAt_45 (by decide) ?_
      refine lv_iload_n hx hb dX12_worstAt_47 rfl (lv_at hl 1 rfl) ?_
      refine lv_imul hx hb dX12_worstAt_48 ?_
      refine lv_iload_n hx hb dX12_worstAt_49 rfl (lv_at hl 3 rfl) ?_
      refine lv_iadd hx hb dX12_worstAt_50 ?_
      obtain ⟨v17, h1, hf⟩ := bs hf
      refine am_ald X hS h1 dX12_worstAt_51 ?_
      refine lv_icmp_ne (tgt := 59) hx hb dX12_worstAt_52 (by decide) (fun q18 => ?_) (fun q18 => ?_)
      · have hf := ifn hf q18
        refine lv_iconst (v := 0) hx hb dX12_worstAt_59 (by decide) ?_
        exact hj60 x5 x4 0 H locs ls hf hS (lv_sub hl [0, 1, 2, 3, 5] rfl)
      · have hf := ifp hf q18
        refine lv_iconst (v := 1) hx hb dX12_worstAt_55 (by decide) ?_
        refine lv_goto (tgt := 60) hx hb dX12_worstAt_56 (by decide) ?_
        exact hj60 x5 x4 1 H locs ls hf hS (lv_sub hl [0, 1, 2, 3, 5] rfl)
set_option maxRecDepth 100000 in
theorem cX12_worstAt_ok {l : Launch} {E : Ev} {x0 : Nat} {x1 : Int32} {mm : Mem} {r : Int32} (hf : fX12_worstAt (eS E) x0 x1 mm = some r) : CtI l yX12_worstAt cX12_worstAt 6 (some .int) 0 0 E [.ref x0, .int x1] mm r mm := by
  refine Met.ofW (cc := cX12_worstAt) (maxL := 6) (ret := (some .int)) (by decide) rfl ?_
  intro p e s m args below meth c s₁ B hml hv
  obtain ⟨rfl, X, hS, hr, hlocks⟩ := am_in B hv
  refine am_entry (Nat.le_of_ble_eq_true rfl) (fun ls hl => ?_)
  exact wX12_worstAt X hml ⟨Nat.le_refl _, Nat.le_refl _⟩ hf (fun pc H locs ls hn hd hS => am_ri X hS hr hn hd hlocks) _ _ ls hS hl
set_option maxHeartbeats 4000000 in
set_option maxRecDepth 100000 in
theorem wX12_isWritten {p : Program} {l : Launch} {e : Env} {R : Room} {s : State} {m : MethodId} {args : Array Value} {below : List Frame} {meth : Method} {c : Code} {Q : State → Prop} {E : Ev} (X : Cx p s m args c cX12_isWritten RX12 E) (hml : c.maxLocals = 3) (hR : 0 ≤ R.frames ∧ 0 ≤ R.locals) {x0 : Nat} {x1 : Int32} {mm : Mem} {r : Int32} (hf : fX12_isWritten (eS E) x0 x1 mm = some r) (hret : ∀ (pc : Nat) (H : Heap) (locs : List Loc) (ls : Array Slot), narrow .boolean (.int r) = .int r → decode cX12_isWritten pc = .ok (.ireturn, 1) → wS E s mm H locs → W p l e R s m args below meth c H locs 0 0 Q (F0 m pc ls [.int r])) : ∀ (H : Heap) (locs : List Loc) (ls : Array Slot), wS E s mm H locs → lv_has ls 3 [(0, .ref x0), (1, .int x1)] → W p l e R s m args below meth c H locs 0 0 Q (F0 m 0 ls []) := by
  have hx := X.1
  have hb := X.2.1
  unfold fX12_isWritten at hf
  have hj30 : ∀ (H : Heap) (locs : List Loc) (ls : Array Slot), fX12_isWritten_j30 (eS E) mm = some r → wS E s mm H locs → lv_has ls 3 [] → W p l e R s m args below meth c H locs 0 0 Q (F0 m 30 ls []) := by
    intro H locs ls hf hS hl
    unfold fX12_isWritten_j30 at hf
    refine lv_iconst (v := 0) hx hb dX12_isWritten_30 (by decide) ?_
    cases hf
    exact hret _ _ _ _ rfl dX12_isWritten_31 hS
  have hj22 : ∀ (H : Heap) (locs : List Loc) (ls : Array Slot), fX12_isWritten_j22 (eS E) mm = some r → wS E s mm H locs → lv_has ls 3 [] → W p l e R s m args below meth c H locs 0 0 Q (F0 m 22 ls []) := by
    intro H locs ls hf hS hl
    unfold fX12_isWritten_j22 at hf
    refine lv_iconst (v := 1) hx hb dX12_isWritten_22 (by decide) ?_
    cases hf
    exact hret _ _ _ _ rfl dX12_isWritten_23 hS
  intro H locs ls hS hl
  refine lv_iconst (v := 0) hx hb dX12_isWritten_0 (by decide) ?_
  refine lv_topi (fun x2_1 e1 => ?_)
  have hf := lt1_n e1 hf
  refine lv_istore_n (lv' := [(2, .int x2_1), (0, .ref x0), (1, .int x1)]) hx hb dX12_isWritten_1 rfl hl (by decide) rfl (fun ls hl => ?_)
  obtain ⟨ex2, hl2, hk2⟩ := bs hf
  refine loop_W (P := fun st => ∀ (H : Heap) (locs : List Loc) (ls : Array Slot), wS E s mm H locs → lv_has ls 3 [(0, .ref x0), (1, .int x1), (2, .int st)] → W p l e R s m args below meth c H locs 0 0 Q (F0 m 2 ls [])) (ex := ex2) ?_ FU _ hl2 H locs ls hS (lv_sub hl [1, 2, 0] rfl)
  intro st y2 hf hyL2 hyR2 H locs ls hS hl
  obtain ⟨x2, rfl⟩ : ∃ z, z = st := ⟨_, rfl⟩
  have hf : fX12_isWritten_b2 (eS E) x0 x1 x2 mm = some y2 := hf
  have hS : wS E s mm H locs := hS
  have hl : lv_has ls 3 [(0, .ref x0), (1, .int x1), (2, .int x2)] := hl
  unfold fX12_isWritten_b2 at hf
  refine lv_iload_n hx hb dX12_isWritten_2 rfl (lv_at hl 2 rfl) ?_
  refine lv_aload_n hx hb dX12_isWritten_3 rfl (lv_at hl 0 rfl) ?_
  obtain ⟨v2, h1, hf⟩ := bs hf
  refine am_gi X hS fl_X12_166 rfl h1 dX12_isWritten_4 ?_
  refine lv_icmp_ge (tgt := 30) hx hb dX12_isWritten_7 (by decide) (fun q3 => ?_) (fun q3 => ?_)
  · have hf := ifp hf q3
    obtain rfl : Sum.inr (()) = ex2 := hyR2 _ (Option.some.inj hf).symm
    exact hj30  H locs ls hk2 hS (lv_sub hl [] rfl)
  · have hf := ifn hf q3
    refine lv_aload_n hx hb dX12_isWritten_10 rfl (lv_at hl 0 rfl) ?_
    obtain ⟨a4, h1, hf⟩ := bs hf
    refine am_gr X hS fl_X12_74 rfl h1 dX12_isWritten_11 ?_
    refine lv_iconst (v := 2) hx hb dX12_isWritten_14 (by decide) ?_
    refine lv_iload_n hx hb dX12_isWritten_15 rfl (lv_at hl 2 rfl) ?_
    refine lv_imul hx hb dX12_isWritten_16 ?_
    obtain ⟨v5, h1, hf⟩ := bs hf
    refine am_ald X hS h1 dX12_isWritten_17 ?_
    refine lv_iload_n hx hb dX12_isWritten_18 rfl (lv_at hl 1 rfl) ?_
    refine lv_icmp_ne (tgt := 24) hx hb dX12_isWritten_19 (by decide) (fun q6 => ?_) (fun q6 => ?_)
    · have hf := ifn hf q6
      obtain ⟨x2_7, e1⟩ : ∃ z : Int32, z = x2 + 1 := ⟨_, rfl⟩
      have hf := lt1_n e1 hf
      refine lv_iinc (v := x2_7) (lv' := [(2, .int x2_7), (0, .ref x0), (1, .int x1)]) hx hb dX12_isWritten_24 hl (k := 2) rfl (by rw [e1]; rfl) (by decide) rfl (fun ls hl => ?_)
      refine lv_goto (tgt := 2) hx hb dX12_isWritten_27 (by decide) ?_
      exact hyL2 _ (Option.some.inj hf).symm H locs ls hS (lv_sub hl [1, 2, 0] rfl)
    · have hf := ifp hf q6
      obtain rfl : Sum.inl () = ex2 := hyR2 _ (Option.some.inj hf).symm
      exact hj22  H locs ls hk2 hS (lv_sub hl [] rfl)
set_option maxRecDepth 100000 in
theorem cX12_isWritten_ok {l : Launch} {E : Ev} {x0 : Nat} {x1 : Int32} {mm : Mem} {r : Int32} (hf : fX12_isWritten (eS E) x0 x1 mm = some r) : CtI l yX12_isWritten cX12_isWritten 3 (some .boolean) 0 0 E [.ref x0, .int x1] mm r mm := by
  refine Met.ofW (cc := cX12_isWritten) (maxL := 3) (ret := (some .boolean)) (by decide) rfl ?_
  intro p e s m args below meth c s₁ B hml hv
  obtain ⟨rfl, X, hS, hr, hlocks⟩ := am_in B hv
  refine am_entry (Nat.le_of_ble_eq_true rfl) (fun ls hl => ?_)
  exact wX12_isWritten X hml ⟨Nat.le_refl _, Nat.le_refl _⟩ hf (fun pc H locs ls hn hd hS => am_ri X hS hr hn hd hlocks) _ _ ls hS hl
set_option maxHeartbeats 4000000 in
set_option maxRecDepth 100000 in
theorem wX12_look {p : Program} {l : Launch} {e : Env} {R : Room} {s : State} {m : MethodId} {args : Array Value} {below : List Frame} {meth : Method} {c : Code} {Q : State → Prop} {E : Ev} (X : Cx p s m args c cX12_look RX12 E) (hml : c.maxLocals = 6) (hR : 7 ≤ R.frames ∧ 165 ≤ R.locals) {x0 : Nat} {x1 : Int32} {mm : Mem} {r : Int32} {mm1 : Mem} (hf : fX12_look (eS E) x0 x1 mm = some (r, mm1)) (hret : ∀ (pc : Nat) (H : Heap) (locs : List Loc) (ls : Array Slot), narrow .int (.int r) = .int r → decode cX12_look pc = .ok (.ireturn, 1) → wS E s mm1 H locs → W p l e R s m args below meth c H locs 0 0 Q (F0 m pc ls [.int r])) : ∀ (H : Heap) (locs : List Loc) (ls : Array Slot), wS E s mm H locs → lv_has ls 6 [(0, .ref x0), (1, .int x1)] → W p l e R s m args below meth c H locs 0 0 Q (F0 m 0 ls []) := by
  have hx := X.1
  have hb := X.2.1
  unfold fX12_look at hf
  have hj173 : ∀ (s0 : Int32) (mm : Mem) (H : Heap) (locs : List Loc) (ls : Array Slot), fX12_look_j173 (eS E) s0 mm = some (r, mm1) → wS E s mm H locs → lv_has ls 6 [] → W p l e R s m args below meth c H locs 0 0 Q (F0 m 173 ls [.int s0]) := by
    intro s0 mm H locs ls hf hS hl
    unfold fX12_look_j173 at hf
    cases hf
    exact hret _ _ _ _ rfl dX12_look_173 hS
  have hj164 : ∀ (x1 : Int32) (x2 : Int32) (x3 : Int32) (mm : Mem) (H : Heap) (locs : List Loc) (ls : Array Slot), fX12_look_j164 (eS E) x1 x2 x3 mm = some (r, mm1) → wS E s mm H locs → lv_has ls 6 [(1, .int x1), (2, .int x2), (3, .int x3)] → W p l e R s m args below meth c H locs 0 0 Q (F0 m 164 ls []) := by
    intro x1 x2 x3 mm H locs ls hf hS hl
    unfold fX12_look_j164 at hf
    refine lv_iload_n hx hb dX12_look_164 rfl (lv_at hl 0 rfl) ?_
    refine lv_if_ne (tgt := 172) hx hb dX12_look_165 (by decide) (fun q1 => ?_) (fun q1 => ?_)
    · have hf := ifn hf q1
      refine lv_iload_n hx hb dX12_look_172 rfl (lv_at hl 2 rfl) ?_
      exact hj173 x3 mm H locs ls hf hS (lv_sub hl [] rfl)
    · have hf := ifp hf q1
      refine lv_iload_n hx hb dX12_look_168 rfl (lv_at hl 1 rfl) ?_
      refine lv_goto (tgt := 173) hx hb dX12_look_169 (by decide) ?_
      exact hj173 x2 mm H locs ls hf hS (lv_sub hl [] rfl)
  have hj95 : ∀ (x0 : Nat) (x1 : Int32) (mm : Mem) (H : Heap) (locs : List Loc) (ls : Array Slot), fX12_look_j95 (eS E) x0 x1 mm = some (r, mm1) → wS E s mm H locs → lv_has ls 6 [(0, .ref x0), (1, .int x1)] → W p l e R s m args below meth c H locs 0 0 Q (F0 m 95 ls []) := by
    intro x0 x1 mm H locs ls hf hS hl
    unfold fX12_look_j95 at hf
    refine lv_iconst (v := (-1)) hx hb dX12_look_95 (by decide) ?_
    refine lv_topi (fun x2_2 e1 => ?_)
    have hf := lt1_n e1 hf
    refine lv_istore_n (lv' := [(2, .int x2_2), (0, .ref x0), (1, .int x1)]) hx hb dX12_look_96 rfl hl (by decide) rfl (fun ls hl => ?_)
    refine lv_iconst (v := (-1)) hx hb dX12_look_97 (by decide) ?_
    refine lv_topi (fun x3_3 e1 => ?_)
    have hf := lt1_n e1 hf
    refine lv_istore_n (lv' := [(3, .int x3_3), (2, .int x2_2), (0, .ref x0), (1, .int x1)]) hx hb dX12_look_98 rfl hl (by decide) rfl (fun ls hl => ?_)
    refine lv_iconst (v := 0) hx hb dX12_look_99 (by decide) ?_
    refine lv_topi (fun x4_4 e1 => ?_)
    have hf := lt1_n e1 hf
    refine lv_istore (lv' := [(4, .int x4_4), (3, .int x3_3), (2, .int x2_2), (0, .ref x0), (1, .int x1)]) hx hb dX12_look_100 hl (by decide) rfl (fun ls hl => ?_)
    obtain ⟨ex102, hl102, hk102⟩ := bs hf
    refine loop_W (P := fun st => ∀ (H : Heap) (locs : List Loc) (ls : Array Slot), wS E s mm H locs → lv_has ls 6 [(0, .ref x0), (1, .int x1), (2, .int st.1), (3, .int st.2.1), (4, .int st.2.2)] → W p l e R s m args below meth c H locs 0 0 Q (F0 m 102 ls [])) (ex := ex102) ?_ FU _ hl102 H locs ls hS (lv_sub hl [3, 4, 2, 1, 0] rfl)
    intro st y102 hf hyL102 hyR102 H locs ls hS hl
    obtain ⟨x2, x3, x4⟩ := st
    have hf : fX12_look_b102 (eS E) x0 x1 x2 x3 x4 mm = some y102 := hf
    have hS : wS E s mm H locs := hS
    have hl : lv_has ls 6 [(0, .ref x0), (1, .int x1), (2, .int x2), (3, .int x3), (4, .int x4)] := hl
    unfold fX12_look_b102 at hf
    have hj158 : ∀ (x2 : Int32) (x3 : Int32) (x4 : Int32) (H : Heap) (locs : List Loc) (ls : Array Slot), fX12_look_j158 (eS E) x0 x1 x2 x3 x4 mm = some y102 → wS E s mm H locs → lv_has ls 6 [(0, .ref x0), (1, .int x1), (2, .int x2), (3, .int x3), (4, .int x4)] → W p l e R s m args below meth c H locs 0 0 Q (F0 m 158 ls []) := by
      intro x2 x3 x4 H locs ls hf hS hl
      unfold fX12_look_j158 at hf
      obtain ⟨x4_5, e1⟩ : ∃ z : Int32, z = x4 + 1 := ⟨_, rfl⟩
      have hf := lt1_n e1 hf
      refine lv_iinc (v := x4_5) (lv' := [(4, .int x4_5), (0, .ref x0), (1, .int x1), (2, .int x2), (3, .int x3)]) hx hb dX12_look_158 hl (k := 4) rfl (by rw [e1]; rfl) (by decide) rfl (fun ls hl => ?_)
      refine lv_goto (tgt := 102) hx hb dX12_look_161 (by decide) ?_
      exact hyL102 _ (Option.some.inj hf).symm H locs ls hS (lv_sub hl [1, 2, 3, 4, 0] rfl)
    have hj152 : ∀ (x4 : Int32) (x5 : Int32) (H : Heap) (locs : List Loc) (ls : Array Slot), fX12_look_j152 (eS E) x0 x1 x4 x5 mm = some y102 → wS E s mm H locs → lv_has ls 6 [(0, .ref x0), (1, .int x1), (4, .int x4), (5, .int x5)] → W p l e R s m args below meth c H locs 0 0 Q (F0 m 152 ls []) := by
      intro x4 x5 H locs ls hf hS hl
      unfold fX12_look_j152 at hf
      refine lv_iload hx hb dX12_look_152 (lv_at hl 2 rfl) ?_
      refine lv_topi (fun x2_6 e1 => ?_)
      have hf := lt1_n e1 hf
      refine lv_istore_n (lv' := [(2, .int x2_6), (0, .ref x0), (1, .int x1), (4, .int x4), (5, .int x5)]) hx hb dX12_look_154 rfl hl (by decide) rfl (fun ls hl => ?_)
      refine lv_iload hx hb dX12_look_155 (lv_at hl 4 rfl) ?_
      refine lv_topi (fun x3_7 e1 => ?_)
      have hf := lt1_n e1 hf
      refine lv_istore_n (lv' := [(3, .int x3_7), (2, .int x2_6), (0, .ref x0), (1, .int x1), (4, .int x4), (5, .int x5)]) hx hb dX12_look_157 rfl hl (by decide) rfl (fun ls hl => ?_)
      exact hj158 x2_6 x3_7 x4 H locs ls hf hS (lv_sub hl [2, 3, 1, 0, 4] rfl)
    have hj130 : ∀ (x2 : Int32) (x3 : Int32) (x4 : Int32) (s0 : Int32) (H : Heap) (locs : List Loc) (ls : Array Slot), fX12_look_j130 (eS E) x0 x1 x2 x3 x4 s0 mm = some y102 → wS E s mm H locs → lv_has ls 6 [(0, .ref x0), (1, .int x1), (2, .int x2), (3, .int x3), (4, .int x4)] → W p l e R s m args below meth c H locs 0 0 Q (F0 m 130 ls [.int s0]) := by
      intro x2 x3 x4 s0 H locs ls hf hS hl
      unfold fX12_look_j130 at hf
      refine lv_topi (fun x5_8 e1 => ?_)
      have hf := lt1_n e1 hf
      refine lv_istore (lv' := [(5, .int x5_8), (0, .ref x0), (1, .int x1), (2, .int x2), (3, .int x3), (4, .int x4)]) hx hb dX12_look_130 hl (by decide) rfl (fun ls hl => ?_)
      refine lv_iload hx hb dX12_look_132 (lv_at hl 0 rfl) ?_
      refine lv_iconst (v := (-1)) hx hb dX12_look_134 (by decide) ?_
      refine lv_icmp_eq (tgt := 158) hx hb dX12_look_135 (by decide) (fun q9 => ?_) (fun q9 => ?_)
      · have hf := ifp hf q9
        exact hj158 x2 x3 x4 H locs ls hf hS (lv_sub hl [1, 2, 3, 4, 5] rfl)
      · have hf := ifn hf q9
        refine lv_iload_n hx hb dX12_look_138 rfl (lv_at hl 3 rfl) ?_
        refine lv_iconst (v := (-1)) hx hb dX12_look_139 (by decide) ?_
        refine lv_icmp_eq (tgt := 152) hx hb dX12_look_140 (by decide) (fun q10 => ?_) (fun q10 => ?_)
        · have hf := ifp hf q10
          exact hj152 x4 x5_8 H locs ls hf hS (lv_sub hl [1, 2, 5, 0] rfl)
        · have hf := ifn hf q10
          refine lv_iload hx hb dX12_look_143 (lv_at hl 0 rfl) ?_
          refine lv_iload_n hx hb dX12_look_145 rfl (lv_at hl 4 rfl) ?_
          refine lv_icmp_lt (tgt := 152) hx hb dX12_look_146 (by decide) (fun q11 => ?_) (fun q11 => ?_)
          · have hf := ifp hf q11
            exact hj152 x4 x5_8 H locs ls hf hS (lv_sub hl [1, 2, 5, 0] rfl)
          · have hf := ifn hf q11
            refine lv_goto (tgt := 158) hx hb dX12_look_149 (by decide) ?_
            exact hj158 x2 x3 x4 H locs ls hf hS (lv_sub hl [1, 2, 3, 4, 5] rfl)
    refine lv_iload hx hb dX12_look_102 (lv_at hl 4 rfl) ?_
    refine lv_aload_n hx hb dX12_look_104 rfl (lv_at hl 0 rfl) ?_
    obtain ⟨v12, h1, hf⟩ := bs hf
    refine am_gi X hS fl_X12_156 rfl h1 dX12_look_105 ?_
    refine lv_icmp_ge (tgt := 164) hx hb dX12_look_108 (by decide) (fun q13 => ?_) (fun q13 => ?_)
    · have hf := ifp hf q13
      obtain rfl : (x2, x3) = ex102 := hyR102 _ (Option.some.inj hf).symm
      exact hj164 x1 x2 x3 mm H locs ls hk102 hS (lv_sub hl [1, 2, 3] rfl)
    · have hf := ifn hf q13
      refine lv_aload_n hx hb dX12_look_111 rfl (lv_at hl 0 rfl) ?_
      refine lv_iload hx hb dX12_look_112 (lv_at hl 4 rfl) ?_
      obtain ⟨u0, h0, hf⟩ := bs hf
      obtain ⟨_, hrc⟩ := isO_n h0
      obtain ⟨v14, h1, hf⟩ := bs hf
      refine am_endi hS (am_runV (As := [.int x4]) X (hml.trans hl.1.symm) hS (cX12_isWritten_ok (l := l) (E := E) h1) mv_X12_415 hrc rfl ⟨Nat.le_trans (by decide) hR.1, Nat.le_trans (by decide) hR.2⟩ ⟨Nat.zero_le _, Nat.zero_le _⟩ rfl rfl (Nat.le_of_ble_eq_true rfl) dX12_look_114) (fun H locs hS => ?_)
      refine lv_if_eq (tgt := 124) hx hb dX12_look_117 (by decide) (fun q15 => ?_) (fun q15 => ?_)
      · have hf := ifp hf q15
        refine lv_aload_n hx hb dX12_look_124 rfl (lv_at hl 0 rfl) ?_
        refine lv_iload hx hb dX12_look_125 (lv_at hl 4 rfl) ?_
        obtain ⟨u0, h0, hf⟩ := bs hf
        obtain ⟨_, hrc⟩ := isO_n h0
        obtain ⟨v16, h1, hf⟩ := bs hf
        refine am_endi hS (am_runV (As := [.int x4]) X (hml.trans hl.1.symm) hS (cX12_worstAt_ok (l := l) (E := E) h1) mv_X12_418 hrc rfl ⟨Nat.le_trans (by decide) hR.1, Nat.le_trans (by decide) hR.2⟩ ⟨Nat.zero_le _, Nat.zero_le _⟩ rfl rfl (Nat.le_of_ble_eq_true rfl) dX12_look_127) (fun H locs hS => ?_)
        exact hj130 x2 x3 x4 v16 H locs ls hf hS hl
      · have hf := ifn hf q15
        refine lv_iconst (v := (-1)) hx hb dX12_look_120 (by decide) ?_
        refine lv_goto (tgt := 130) hx hb dX12_look_121 (by decide) ?_
        exact hj130 x2 x3 x4 (-1) H locs ls hf hS hl
  intro H locs ls hS hl
  refine lv_aload_n hx hb dX12_look_0 rfl (lv_at hl 0 rfl) ?_
  refine lv_iconst (v := 0) hx hb dX12_look_1 (by decide) ?_
  obtain ⟨m17, h1, hf⟩ := bs hf
  refine am_pi X hS fp_X12_3 rfl h1 dX12_look_2 (fun H locs hS => ?_)
  refine lv_aload_n hx hb dX12_look_5 rfl (lv_at hl 0 rfl) ?_
  refine lv_iload_n hx hb dX12_look_6 rfl (lv_at hl 1 rfl) ?_
  refine lv_iconst (v := 0) hx hb dX12_look_7 (by decide) ?_
  refine lv_iconst (v := 1) hx hb dX12_look_8 (by decide) ?_
  obtain ⟨v18, h1, hf⟩ := bs hf
  refine am_endi hS (am_runS (As := [.int x1, .int 0, .int 1]) X (hml.trans hl.1.symm) hS (cX12_within_ok (l := l) (E := E) h1) ms_X12_368 ⟨Nat.le_trans (by decide) hR.1, Nat.le_trans (by decide) hR.2⟩ ⟨Nat.zero_le _, Nat.zero_le _⟩ rfl rfl (Nat.le_of_ble_eq_true rfl) dX12_look_9) (fun H locs hS => ?_)
  refine lv_iconst (v := 1) hx hb dX12_look_12 (by decide) ?_
  refine lv_iconst (v := 1) hx hb dX12_look_13 (by decide) ?_
  obtain ⟨u0, h0, hf⟩ := bs hf
  obtain ⟨_, hrc⟩ := isO_n h0
  obtain ⟨v19, m20, h1, hf⟩ := bs2 hf
  refine am_endi hS (am_runV (As := [.int v18, .int 1, .int 1]) X (hml.trans hl.1.symm) hS (cX12_may_ok (l := l) (E := E) h1) mv_X12_190 hrc rfl ⟨Nat.le_trans (by decide) hR.1, Nat.le_trans (by decide) hR.2⟩ ⟨Nat.zero_le _, Nat.zero_le _⟩ rfl rfl (Nat.le_of_ble_eq_true rfl) dX12_look_14) (fun H locs hS => ?_)
  refine lv_if_ne (tgt := 22) hx hb dX12_look_17 (by decide) (fun q21 => ?_) (fun q21 => ?_)
  · have hf := ifn hf q21
    refine lv_aload_n hx hb dX12_look_22 rfl (lv_at hl 0 rfl) ?_
    obtain ⟨u0, h0, hf⟩ := bs hf
    obtain ⟨_, hrc⟩ := isO_n h0
    obtain ⟨m22, h1, hf⟩ := bs hf
    refine am_endv hS (am_runV (As := []) X (hml.trans hl.1.symm) hS (cX12_laysFits_ok (l := l) (E := E) h1) mv_X12_412 hrc rfl ⟨Nat.le_trans (by decide) hR.1, Nat.le_trans (by decide) hR.2⟩ ⟨Nat.zero_le _, Nat.zero_le _⟩ rfl rfl (Nat.le_of_ble_eq_true rfl) dX12_look_23) (fun H locs hS => ?_)
    refine lv_iconst (v := 0) hx hb dX12_look_26 (by decide) ?_
    refine lv_topi (fun x2_23 e1 => ?_)
    have hf := lt1_n e1 hf
    refine lv_istore_n (lv' := [(2, .int x2_23), (0, .ref x0), (1, .int x1)]) hx hb dX12_look_27 rfl hl (by decide) rfl (fun ls hl => ?_)
    obtain ⟨ex28, hl28, hk28⟩ := bs hf
    refine loop_W (P := fun st => ∀ (H : Heap) (locs : List Loc) (ls : Array Slot), wS E s st.2 H locs → lv_has ls 6 [(0, .ref x0), (1, .int x1), (2, .int st.1)] → W p l e R s m args below meth c H locs 0 0 Q (F0 m 28 ls [])) (ex := ex28) ?_ FU _ hl28 H locs ls hS (lv_sub hl [1, 2, 0] rfl)
    intro st y28 hf hyL28 hyR28 H locs ls hS hl
    obtain ⟨x2, mm⟩ := st
    have hf : fX12_look_b28 (eS E) x0 x1 x2 mm = some y28 := hf
    have hS : wS E s mm H locs := hS
    have hl : lv_has ls 6 [(0, .ref x0), (1, .int x1), (2, .int x2)] := hl
    unfold fX12_look_b28 at hf
    have hj89 : ∀ (x2 : Int32) (mm : Mem) (H : Heap) (locs : List Loc) (ls : Array Slot), fX12_look_j89 (eS E) x0 x1 x2 mm = some y28 → wS E s mm H locs → lv_has ls 6 [(0, .ref x0), (1, .int x1), (2, .int x2)] → W p l e R s m args below meth c H locs 0 0 Q (F0 m 89 ls []) := by
      intro x2 mm H locs ls hf hS hl
      unfold fX12_look_j89 at hf
      obtain ⟨x2_24, e1⟩ : ∃ z : Int32, z = x2 + 1 := ⟨_, rfl⟩
      have hf := lt1_n e1 hf
      refine lv_iinc (v := x2_24) (lv' := [(2, .int x2_24), (0, .ref x0), (1, .int x1)]) hx hb dX12_look_89 hl (k := 2) rfl (by rw [e1]; rfl) (by decide) rfl (fun ls hl => ?_)
      refine lv_goto (tgt := 28) hx hb dX12_look_92 (by decide) ?_
      exact hyL28 _ (Option.some.inj hf).symm H locs ls hS (lv_sub hl [1, 2, 0] rfl)
    refine lv_iload_n hx hb dX12_look_28 rfl (lv_at hl 2 rfl) ?_
    refine lv_aload_n hx hb dX12_look_29 rfl (lv_at hl 0 rfl) ?_
    obtain ⟨v25, h1, hf⟩ := bs hf
    refine am_gi X hS fl_X12_409 rfl h1 dX12_look_30 ?_
    refine lv_icmp_ge (tgt := 95) hx hb dX12_look_33 (by decide) (fun q26 => ?_) (fun q26 => ?_)
    · have hf := ifp hf q26
      obtain rfl : mm = ex28 := hyR28 _ (Option.some.inj hf).symm
      exact hj95 x0 x1 mm H locs ls hk28 hS (lv_sub hl [0, 1] rfl)
    · have hf := ifn hf q26
      refine lv_aload_n hx hb dX12_look_36 rfl (lv_at hl 0 rfl) ?_
      obtain ⟨u0, h0, hf⟩ := bs hf
      obtain ⟨_, hrc⟩ := isO_n h0
      obtain ⟨m27, h1, hf⟩ := bs hf
      refine am_endv hS (am_runV (As := []) X (hml.trans hl.1.symm) hS (cX12_take_ok (l := l) (E := E) h1) mv_X12_301 hrc rfl ⟨Nat.le_trans (by decide) hR.1, Nat.le_trans (by decide) hR.2⟩ ⟨Nat.zero_le _, Nat.zero_le _⟩ rfl rfl (Nat.le_of_ble_eq_true rfl) dX12_look_37) (fun H locs hS => ?_)
      refine lv_aload_n hx hb dX12_look_40 rfl (lv_at hl 0 rfl) ?_
      refine lv_aload_n hx hb dX12_look_41 rfl (lv_at hl 0 rfl) ?_
      obtain ⟨a28, h1, hf⟩ := bs hf
      refine am_gr X hS fl_X12_77 rfl h1 dX12_look_42 ?_
      refine lv_iload_n hx hb dX12_look_45 rfl (lv_at hl 2 rfl) ?_
      obtain ⟨v29, h1, hf⟩ := bs hf
      refine am_ald X hS h1 dX12_look_46 ?_
      refine lv_aload_n hx hb dX12_look_47 rfl (lv_at hl 0 rfl) ?_
      obtain ⟨a30, h1, hf⟩ := bs hf
      refine am_gr X hS fl_X12_80 rfl h1 dX12_look_48 ?_
      refine lv_iload_n hx hb dX12_look_51 rfl (lv_at hl 2 rfl) ?_
      obtain ⟨v31, h1, hf⟩ := bs hf
      refine am_ald X hS h1 dX12_look_52 ?_
      obtain ⟨u0, h0, hf⟩ := bs hf
      obtain ⟨_, hrc⟩ := isO_n h0
      obtain ⟨v32, m33, h1, hf⟩ := bs2 hf
      refine am_endi hS (am_runV (As := [.int v29, .int v31]) X (hml.trans hl.1.symm) hS (cX12_isParted_ok (l := l) (E := E) h1) mv_X12_345 hrc rfl ⟨Nat.le_trans (by decide) hR.1, Nat.le_trans (by decide) hR.2⟩ ⟨Nat.zero_le _, Nat.zero_le _⟩ rfl rfl (Nat.le_of_ble_eq_true rfl) dX12_look_53) (fun H locs hS => ?_)
      refine lv_pop hx hb dX12_look_56 rfl ?_
      refine lv_iconst (v := 0) hx hb dX12_look_57 (by decide) ?_
      refine lv_topi (fun x3_34 e1 => ?_)
      have hf := lt1_n e1 hf
      refine lv_istore_n (lv' := [(3, .int x3_34), (0, .ref x0), (1, .int x1), (2, .int x2)]) hx hb dX12_look_58 rfl hl (by decide) rfl (fun ls hl => ?_)
      obtain ⟨ex59, hl59, hk59⟩ := bs hf
      refine loop_W (P := fun st => ∀ (H : Heap) (locs : List Loc) (ls : Array Slot), wS E s st.2 H locs → lv_has ls 6 [(0, .ref x0), (1, .int x1), (2, .int x2), (3, .int st.1)] → W p l e R s m args below meth c H locs 0 0 Q (F0 m 59 ls [])) (ex := ex59) ?_ FU _ hl59 H locs ls hS (lv_sub hl [1, 2, 3, 0] rfl)
      intro st y59 hf hyL59 hyR59 H locs ls hS hl
      obtain ⟨x3, mm⟩ := st
      have hf : fX12_look_b59 (eS E) x0 x1 x2 x3 mm = some y59 := hf
      have hS : wS E s mm H locs := hS
      have hl : lv_has ls 6 [(0, .ref x0), (1, .int x1), (2, .int x2), (3, .int x3)] := hl
      unfold fX12_look_b59 at hf
      refine lv_iload_n hx hb dX12_look_59 rfl (lv_at hl 3 rfl) ?_
      refine lv_aload_n hx hb dX12_look_60 rfl (lv_at hl 0 rfl) ?_
      obtain ⟨v35, h1, hf⟩ := bs hf
      refine am_gi X hS fl_X12_156 rfl h1 dX12_look_61 ?_
      refine lv_icmp_ge (tgt := 89) hx hb dX12_look_64 (by decide) (fun q36 => ?_) (fun q36 => ?_)
      · have hf := ifp hf q36
        obtain rfl : mm = ex59 := hyR59 _ (Option.some.inj hf).symm
        exact hj89 x2 mm H locs ls hk59 hS (lv_sub hl [0, 1, 2] rfl)
      · have hf := ifn hf q36
        refine lv_aload_n hx hb dX12_look_67 rfl (lv_at hl 0 rfl) ?_
        obtain ⟨a37, h1, hf⟩ := bs hf
        refine am_gr X hS fl_X12_83 rfl h1 dX12_look_68 ?_
        refine lv_bipush (v := 48) hx hb dX12_look_71 (by decide) ?_
        refine lv_iload_n hx hb dX12_look_73 rfl (lv_at hl 3 rfl) ?_
        refine lv_imul hx hb dX12_look_74 ?_
        refine lv_iload_n hx hb dX12_look_75 rfl (lv_at hl 2 rfl) ?_
        refine lv_iadd hx hb dX12_look_76 ?_
        refine lv_aload_n hx hb dX12_look_77 rfl (lv_at hl 0 rfl) ?_
        refine lv_iload_n hx hb dX12_look_78 rfl (lv_at hl 3 rfl) ?_
        obtain ⟨u0, h0, hf⟩ := bs hf
        obtain ⟨_, hrc⟩ := isO_n h0
        obtain ⟨v38, h1, hf⟩ := bs hf
        refine am_endi hS (am_runV (As := [.int x3]) X (hml.trans hl.1.symm) hS (cX12_atPlace_ok (l := l) (E := E) h1) mv_X12_392 hrc rfl ⟨Nat.le_trans (by decide) hR.1, Nat.le_trans (by decide) hR.2⟩ ⟨Nat.zero_le _, Nat.zero_le _⟩ rfl rfl (Nat.le_of_ble_eq_true rfl) dX12_look_79) (fun H locs hS => ?_)
        obtain ⟨m39, h1, hf⟩ := bs hf
        refine am_ast X hS h1 dX12_look_82 (fun H locs hS => ?_)
        obtain ⟨x3_40, e1⟩ : ∃ z : Int32, z = x3 + 1 := ⟨_, rfl⟩
        have hf := lt1_n e1 hf
        refine lv_iinc (v := x3_40) (lv' := [(3, .int x3_40), (0, .ref x0), (1, .int x1), (2, .int x2)]) hx hb dX12_look_83 hl (k := 3) rfl (by rw [e1]; rfl) (by decide) rfl (fun ls hl => ?_)
        refine lv_goto (tgt := 59) hx hb dX12_look_86 (by decide) ?_
        exact hyL59 _ (Option.some.inj hf).symm H locs ls hS (lv_sub hl [1, 2, 3, 0] rfl)
  · have hf := ifp hf q21
    refine lv_iconst (v := 0) hx hb dX12_look_20 (by decide) ?_
    cases hf
    exact hret _ _ _ _ rfl dX12_look_21 hS
set_option maxRecDepth 100000 in
theorem cX12_look_ok {l : Launch} {E : Ev} {x0 : Nat} {x1 : Int32} {mm : Mem} {r : Int32} {mm1 : Mem} (hf : fX12_look (eS E) x0 x1 mm = some (r, mm1)) : CtI l yX12_look cX12_look 6 (some .int) 7 165 E [.ref x0, .int x1] mm r mm1 := by
  refine Met.ofW (cc := cX12_look) (maxL := 6) (ret := (some .int)) (by decide) rfl ?_
  intro p e s m args below meth c s₁ B hml hv
  obtain ⟨rfl, X, hS, hr, hlocks⟩ := am_in B hv
  refine am_entry (Nat.le_of_ble_eq_true rfl) (fun ls hl => ?_)
  exact wX12_look X hml ⟨Nat.le_refl _, Nat.le_refl _⟩ hf (fun pc H locs ls hn hd hS => am_ri X hS hr hn hd hlocks) _ _ ls hS hl
set_option maxHeartbeats 4000000 in
set_option maxRecDepth 100000 in
theorem wX12_votesOf {p : Program} {l : Launch} {e : Env} {R : Room} {s : State} {m : MethodId} {args : Array Value} {below : List Frame} {meth : Method} {c : Code} {Q : State → Prop} {E : Ev} (X : Cx p s m args c cX12_votesOf RX12 E) (hml : c.maxLocals = 5) (hR : 1 ≤ R.frames ∧ 22 ≤ R.locals) {x0 : Nat} {x1 : Int32} {x2 : Int32} {mm : Mem} {r : Int32} (hf : fX12_votesOf (eS E) x0 x1 x2 mm = some r) (hret : ∀ (pc : Nat) (H : Heap) (locs : List Loc) (ls : Array Slot), narrow .int (.int r) = .int r → decode cX12_votesOf pc = .ok (.ireturn, 1) → wS E s mm H locs → W p l e R s m args below meth c H locs 0 0 Q (F0 m pc ls [.int r])) : ∀ (H : Heap) (locs : List Loc) (ls : Array Slot), wS E s mm H locs → lv_has ls 5 [(0, .ref x0), (1, .int x1), (2, .int x2)] → W p l e R s m args below meth c H locs 0 0 Q (F0 m 0 ls []) := by
  have hx := X.1
  have hb := X.2.1
  unfold fX12_votesOf at hf
  have hj40 : ∀ (x3 : Int32) (H : Heap) (locs : List Loc) (ls : Array Slot), fX12_votesOf_j40 (eS E) x3 mm = some r → wS E s mm H locs → lv_has ls 5 [(3, .int x3)] → W p l e R s m args below meth c H locs 0 0 Q (F0 m 40 ls []) := by
    intro x3 H locs ls hf hS hl
    unfold fX12_votesOf_j40 at hf
    refine lv_iload_n hx hb dX12_votesOf_40 rfl (lv_at hl 0 rfl) ?_
    cases hf
    exact hret _ _ _ _ rfl dX12_votesOf_41 hS
  intro H locs ls hS hl
  refine lv_iconst (v := 0) hx hb dX12_votesOf_0 (by decide) ?_
  refine lv_topi (fun x3_1 e1 => ?_)
  have hf := lt1_n e1 hf
  refine lv_istore_n (lv' := [(3, .int x3_1), (0, .ref x0), (1, .int x1), (2, .int x2)]) hx hb dX12_votesOf_1 rfl hl (by decide) rfl (fun ls hl => ?_)
  refine lv_iconst (v := 0) hx hb dX12_votesOf_2 (by decide) ?_
  refine lv_topi (fun x4_2 e1 => ?_)
  have hf := lt1_n e1 hf
  refine lv_istore (lv' := [(4, .int x4_2), (3, .int x3_1), (0, .ref x0), (1, .int x1), (2, .int x2)]) hx hb dX12_votesOf_3 hl (by decide) rfl (fun ls hl => ?_)
  obtain ⟨ex5, hl5, hk5⟩ := bs hf
  refine loop_W (P := fun st => ∀ (H : Heap) (locs : List Loc) (ls : Array Slot), wS E s mm H locs → lv_has ls 5 [(0, .ref x0), (1, .int x1), (2, .int x2), (3, .int st.1), (4, .int st.2)] → W p l e R s m args below meth c H locs 0 0 Q (F0 m 5 ls [])) (ex := ex5) ?_ FU _ hl5 H locs ls hS (lv_sub hl [2, 3, 4, 1, 0] rfl)
  intro st y5 hf hyL5 hyR5 H locs ls hS hl
  obtain ⟨x3, x4⟩ := st
  have hf : fX12_votesOf_b5 (eS E) x0 x1 x2 x3 x4 mm = some y5 := hf
  have hS : wS E s mm H locs := hS
  have hl : lv_has ls 5 [(0, .ref x0), (1, .int x1), (2, .int x2), (3, .int x3), (4, .int x4)] := hl
  unfold fX12_votesOf_b5 at hf
  refine lv_iload hx hb dX12_votesOf_5 (lv_at hl 4 rfl) ?_
  refine lv_bipush (v := 7) hx hb dX12_votesOf_7 (by decide) ?_
  refine lv_icmp_ge (tgt := 40) hx hb dX12_votesOf_9 (by decide) (fun q3 => ?_) (fun q3 => ?_)
  · have hf := ifp hf q3
    obtain rfl : x3 = ex5 := hyR5 _ (Option.some.inj hf).symm
    exact hj40 x3 H locs ls hk5 hS (lv_sub hl [3] rfl)
  · have hf := ifn hf q3
    refine lv_iload_n hx hb dX12_votesOf_12 rfl (lv_at hl 3 rfl) ?_
    refine lv_iload_n hx hb dX12_votesOf_13 rfl (lv_at hl 2 rfl) ?_
    refine lv_iload hx hb dX12_votesOf_14 (lv_at hl 4 rfl) ?_
    refine lv_ishr hx hb dX12_votesOf_16 ?_
    refine lv_iconst (v := 1) hx hb dX12_votesOf_17 (by decide) ?_
    refine lv_iand hx hb dX12_votesOf_18 ?_
    refine lv_aload_n hx hb dX12_votesOf_19 rfl (lv_at hl 0 rfl) ?_
    obtain ⟨a4, h1, hf⟩ := bs hf
    refine am_gr X hS fl_X12_59 rfl h1 dX12_votesOf_20 ?_
    refine lv_iconst (v := 0) hx hb dX12_votesOf_23 (by decide) ?_
    refine lv_iload_n hx hb dX12_votesOf_24 rfl (lv_at hl 1 rfl) ?_
    refine lv_iload hx hb dX12_votesOf_25 (lv_at hl 4 rfl) ?_
    obtain ⟨v5, h1, hf⟩ := bs hf
    refine am_endi hS (am_runS (As := [.int 0, .int x1, .int x4]) X (hml.trans hl.1.symm) hS (cX12_in_ok (l := l) (E := E) h1) ms_X12_319 ⟨Nat.le_trans (by decide) hR.1, Nat.le_trans (by decide) hR.2⟩ ⟨Nat.zero_le _, Nat.zero_le _⟩ rfl rfl (Nat.le_of_ble_eq_true rfl) dX12_votesOf_27) (fun H locs hS => ?_)
    obtain ⟨v6, h1, hf⟩ := bs hf
    refine am_ald X hS h1 dX12_votesOf_30 ?_
    refine lv_imul hx hb dX12_votesOf_31 ?_
    refine lv_iadd hx hb dX12_votesOf_32 ?_
    refine lv_topi (fun x3_7 e1 => ?_)
    have hf := lt1_n e1 hf
    refine lv_istore_n (lv' := [(3, .int x3_7), (0, .ref x0), (1, .int x1), (2, .int x2), (4, .int x4)]) hx hb dX12_votesOf_33 rfl hl (by decide) rfl (fun ls hl => ?_)
    obtain ⟨x4_8, e1⟩ : ∃ z : Int32, z = x4 + 1 := ⟨_, rfl⟩
    have hf := lt1_n e1 hf
    refine lv_iinc (v := x4_8) (lv' := [(4, .int x4_8), (3, .int x3_7), (0, .ref x0), (1, .int x1), (2, .int x2)]) hx hb dX12_votesOf_34 hl (k := 4) rfl (by rw [e1]; rfl) (by decide) rfl (fun ls hl => ?_)
    refine lv_goto (tgt := 5) hx hb dX12_votesOf_37 (by decide) ?_
    exact hyL5 _ (Option.some.inj hf).symm H locs ls hS (lv_sub hl [2, 3, 4, 1, 0] rfl)
set_option maxRecDepth 100000 in
theorem cX12_votesOf_ok {l : Launch} {E : Ev} {x0 : Nat} {x1 : Int32} {x2 : Int32} {mm : Mem} {r : Int32} (hf : fX12_votesOf (eS E) x0 x1 x2 mm = some r) : CtI l yX12_votesOf cX12_votesOf 5 (some .int) 1 22 E [.ref x0, .int x1, .int x2] mm r mm := by
  refine Met.ofW (cc := cX12_votesOf) (maxL := 5) (ret := (some .int)) (by decide) rfl ?_
  intro p e s m args below meth c s₁ B hml hv
  obtain ⟨rfl, X, hS, hr, hlocks⟩ := am_in B hv
  refine am_entry (Nat.le_of_ble_eq_true rfl) (fun ls hl => ?_)
  exact wX12_votesOf X hml ⟨Nat.le_refl _, Nat.le_refl _⟩ hf (fun pc H locs ls hn hd hS => am_ri X hS hr hn hd hlocks) _ _ ls hS hl
set_option maxHeartbeats 4000000 in
set_option maxRecDepth 100000 in
theorem wX12_isSwing {p : Program} {l : Launch} {e : Env} {R : Room} {s : State} {m : MethodId} {args : Array Value} {below : List Frame} {meth : Method} {c : Code} {Q : State → Prop} {E : Ev} (X : Cx p s m args c cX12_isSwing RX12 E) (hml : c.maxLocals = 5) (hR : 2 ≤ R.frames ∧ 46 ≤ R.locals) {x0 : Nat} {x1 : Int32} {x2 : Int32} {x3 : Int32} {x4 : Int32} {mm : Mem} {r : Int32} (hf : fX12_isSwing (eS E) x0 x1 x2 x3 x4 mm = some r) (hret : ∀ (pc : Nat) (H : Heap) (locs : List Loc) (ls : Array Slot), narrow .boolean (.int r) = .int r → decode cX12_isSwing pc = .ok (.ireturn, 1) → wS E s mm H locs → W p l e R s m args below meth c H locs 0 0 Q (F0 m pc ls [.int r])) : ∀ (H : Heap) (locs : List Loc) (ls : Array Slot), wS E s mm H locs → lv_has ls 5 [(0, .ref x0), (1, .int x1), (2, .int x2), (3, .int x3), (4, .int x4)] → W p l e R s m args below meth c H locs 0 0 Q (F0 m 0 ls []) := by
  have hx := X.1
  have hb := X.2.1
  unfold fX12_isSwing at hf
  have hj39 : ∀ (s0 : Int32) (H : Heap) (locs : List Loc) (ls : Array Slot), fX12_isSwing_j39 (eS E) s0 mm = some r → wS E s mm H locs → lv_has ls 5 [] → W p l e R s m args below meth c H locs 0 0 Q (F0 m 39 ls [.int s0]) := by
    intro s0 H locs ls hf hS hl
    unfold fX12_isSwing_j39 at hf
    obtain ⟨v1, h1, hf⟩ := bs hf
    obtain ⟨rfl, h2⟩ := ckZ_n h1
    cases hf
    exact hret _ _ _ _ h2 dX12_isSwing_39 hS
  have hj38 : ∀ (H : Heap) (locs : List Loc) (ls : Array Slot), fX12_isSwing_j38 (eS E) mm = some r → wS E s mm H locs → lv_has ls 5 [] → W p l e R s m args below meth c H locs 0 0 Q (F0 m 38 ls []) := by
    intro H locs ls hf hS hl
    unfold fX12_isSwing_j38 at hf
    refine lv_iconst (v := 0) hx hb dX12_isSwing_38 (by decide) ?_
    exact hj39 0 H locs ls hf hS hl
  intro H locs ls hS hl
  refine lv_iload_n hx hb dX12_isSwing_0 rfl (lv_at hl 2 rfl) ?_
  refine lv_iload_n hx hb dX12_isSwing_1 rfl (lv_at hl 3 rfl) ?_
  refine lv_ishr hx hb dX12_isSwing_2 ?_
  refine lv_iconst (v := 1) hx hb dX12_isSwing_3 (by decide) ?_
  refine lv_iand hx hb dX12_isSwing_4 ?_
  refine lv_if_ne (tgt := 38) hx hb dX12_isSwing_5 (by decide) (fun q2 => ?_) (fun q2 => ?_)
  · have hf := ifn hf q2
    exact hj38  H locs ls hf hS (lv_sub hl [] rfl)
  · have hf := ifp hf q2
    refine lv_aload_n hx hb dX12_isSwing_8 rfl (lv_at hl 0 rfl) ?_
    refine lv_iload_n hx hb dX12_isSwing_9 rfl (lv_at hl 1 rfl) ?_
    refine lv_iload_n hx hb dX12_isSwing_10 rfl (lv_at hl 2 rfl) ?_
    obtain ⟨u0, h0, hf⟩ := bs hf
    obtain ⟨_, hrc⟩ := isO_n h0
    obtain ⟨v3, h1, hf⟩ := bs hf
    refine am_endi hS (am_runV (As := [.int x1, .int x2]) X (hml.trans hl.1.symm) hS (cX12_votesOf_ok (l := l) (E := E) h1) mv_X12_421 hrc rfl ⟨Nat.le_trans (by decide) hR.1, Nat.le_trans (by decide) hR.2⟩ ⟨Nat.zero_le _, Nat.zero_le _⟩ rfl rfl (Nat.le_of_ble_eq_true rfl) dX12_isSwing_11) (fun H locs hS => ?_)
    refine lv_iload hx hb dX12_isSwing_14 (lv_at hl 4 rfl) ?_
    refine lv_icmp_ge (tgt := 38) hx hb dX12_isSwing_16 (by decide) (fun q4 => ?_) (fun q4 => ?_)
    · have hf := ifp hf q4
      exact hj38  H locs ls hf hS (lv_sub hl [] rfl)
    · have hf := ifn hf q4
      refine lv_aload_n hx hb dX12_isSwing_19 rfl (lv_at hl 0 rfl) ?_
      refine lv_iload_n hx hb dX12_isSwing_20 rfl (lv_at hl 1 rfl) ?_
      refine lv_iload_n hx hb dX12_isSwing_21 rfl (lv_at hl 2 rfl) ?_
      refine lv_iconst (v := 1) hx hb dX12_isSwing_22 (by decide) ?_
      refine lv_iload_n hx hb dX12_isSwing_23 rfl (lv_at hl 3 rfl) ?_
      refine lv_ishl hx hb dX12_isSwing_24 ?_
      refine lv_ior hx hb dX12_isSwing_25 ?_
      obtain ⟨u0, h0, hf⟩ := bs hf
      obtain ⟨_, hrc⟩ := isO_n h0
      obtain ⟨v5, h1, hf⟩ := bs hf
      refine am_endi hS (am_runV (As := [.int x1, .int (x2 ||| (1 <<< (x3 &&& 31)))]) X (hml.trans hl.1.symm) hS (cX12_votesOf_ok (l := l) (E := E) h1) mv_X12_421 hrc rfl ⟨Nat.le_trans (by decide) hR.1, Nat.le_trans (by decide) hR.2⟩ ⟨Nat.zero_le _, Nat.zero_le _⟩ rfl rfl (Nat.le_of_ble_eq_true rfl) dX12_isSwing_26) (fun H locs hS => ?_)
      refine lv_iload hx hb dX12_isSwing_29 (lv_at hl 4 rfl) ?_
      refine lv_icmp_lt (tgt := 38) hx hb dX12_isSwing_31 (by decide) (fun q6 => ?_) (fun q6 => ?_)
      · have hf := ifp hf q6
        exact hj38  H locs ls hf hS (lv_sub hl [] rfl)
      · have hf := ifn hf q6
        refine lv_iconst (v := 1) hx hb dX12_isSwing_34 (by decide) ?_
        refine lv_goto (tgt := 39) hx hb dX12_isSwing_35 (by decide) ?_
        exact hj39 1 H locs ls hf hS (lv_sub hl [] rfl)
set_option maxRecDepth 100000 in
theorem cX12_isSwing_ok {l : Launch} {E : Ev} {x0 : Nat} {x1 : Int32} {x2 : Int32} {x3 : Int32} {x4 : Int32} {mm : Mem} {r : Int32} (hf : fX12_isSwing (eS E) x0 x1 x2 x3 x4 mm = some r) : CtI l yX12_isSwing cX12_isSwing 5 (some .boolean) 2 46 E [.ref x0, .int x1, .int x2, .int x3, .int x4] mm r mm := by
  refine Met.ofW (cc := cX12_isSwing) (maxL := 5) (ret := (some .boolean)) (by decide) rfl ?_
  intro p e s m args below meth c s₁ B hml hv
  obtain ⟨rfl, X, hS, hr, hlocks⟩ := am_in B hv
  refine am_entry (Nat.le_of_ble_eq_true rfl) (fun ls hl => ?_)
  exact wX12_isSwing X hml ⟨Nat.le_refl _, Nat.le_refl _⟩ hf (fun pc H locs ls hn hd hS => am_ri X hS hr hn hd hlocks) _ _ ls hS hl
set_option maxHeartbeats 4000000 in
set_option maxRecDepth 100000 in
theorem wX12_swings {p : Program} {l : Launch} {e : Env} {R : Room} {s : State} {m : MethodId} {args : Array Value} {below : List Frame} {meth : Method} {c : Code} {Q : State → Prop} {E : Ev} (X : Cx p s m args c cX12_swings RX12 E) (hml : c.maxLocals = 6) (hR : 3 ≤ R.frames ∧ 70 ≤ R.locals) {x0 : Nat} {x1 : Int32} {x2 : Int32} {x3 : Int32} {mm : Mem} {r : Int32} {mm1 : Mem} (hf : fX12_swings (eS E) x0 x1 x2 x3 mm = some (r, mm1)) (hret : ∀ (pc : Nat) (H : Heap) (locs : List Loc) (ls : Array Slot), narrow .int (.int r) = .int r → decode cX12_swings pc = .ok (.ireturn, 1) → wS E s mm1 H locs → W p l e R s m args below meth c H locs 0 0 Q (F0 m pc ls [.int r])) : ∀ (H : Heap) (locs : List Loc) (ls : Array Slot), wS E s mm H locs → lv_has ls 6 [(0, .ref x0), (1, .int x1), (2, .int x2), (3, .int x3)] → W p l e R s m args below meth c H locs 0 0 Q (F0 m 0 ls []) := by
  have hx := X.1
  have hb := X.2.1
  unfold fX12_swings at hf
  have hj46 : ∀ (mm : Mem) (H : Heap) (locs : List Loc) (ls : Array Slot), fX12_swings_j46 (eS E) mm = some (r, mm1) → wS E s mm H locs → lv_has ls 6 [] → W p l e R s m args below meth c H locs 0 0 Q (F0 m 46 ls []) := by
    intro mm H locs ls hf hS hl
    unfold fX12_swings_j46 at hf
    refine lv_iconst (v := 0) hx hb dX12_swings_46 (by decide) ?_
    cases hf
    exact hret _ _ _ _ rfl dX12_swings_47 hS
  have hj90 : ∀ (x4 : Int32) (mm : Mem) (H : Heap) (locs : List Loc) (ls : Array Slot), fX12_swings_j90 (eS E) x4 mm = some (r, mm1) → wS E s mm H locs → lv_has ls 6 [(4, .int x4)] → W p l e R s m args below meth c H locs 0 0 Q (F0 m 90 ls []) := by
    intro x4 mm H locs ls hf hS hl
    unfold fX12_swings_j90 at hf
    refine lv_iload hx hb dX12_swings_90 (lv_at hl 0 rfl) ?_
    cases hf
    exact hret _ _ _ _ rfl dX12_swings_92 hS
  have hj38 : ∀ (x0 : Nat) (x1 : Int32) (x2 : Int32) (x3 : Int32) (s0 : Nat) (s1 : Int32) (mm : Mem) (H : Heap) (locs : List Loc) (ls : Array Slot), fX12_swings_j38 (eS E) x0 x1 x2 x3 s0 s1 mm = some (r, mm1) → wS E s mm H locs → lv_has ls 6 [(0, .ref x0), (1, .int x1), (2, .int x2), (3, .int x3)] → W p l e R s m args below meth c H locs 0 0 Q (F0 m 38 ls [.int s1, .ref s0]) := by
    intro x0 x1 x2 x3 s0 s1 mm H locs ls hf hS hl
    unfold fX12_swings_j38 at hf
    refine lv_iconst (v := 2) hx hb dX12_swings_38 (by decide) ?_
    refine lv_iconst (v := 1) hx hb dX12_swings_39 (by decide) ?_
    obtain ⟨u0, h0, hf⟩ := bs hf
    obtain ⟨_, hrc⟩ := isO_n h0
    obtain ⟨v1, m2, h1, hf⟩ := bs2 hf
    refine am_endi hS (am_runV (As := [.int s1, .int 2, .int 1]) X (hml.trans hl.1.symm) hS (cX12_may_ok (l := l) (E := E) h1) mv_X12_190 hrc rfl ⟨Nat.le_trans (by decide) hR.1, Nat.le_trans (by decide) hR.2⟩ ⟨Nat.zero_le _, Nat.zero_le _⟩ rfl rfl (Nat.le_of_ble_eq_true rfl) dX12_swings_40) (fun H locs hS => ?_)
    refine lv_if_ne (tgt := 48) hx hb dX12_swings_43 (by decide) (fun q3 => ?_) (fun q3 => ?_)
    · have hf := ifn hf q3
      refine lv_iconst (v := 0) hx hb dX12_swings_48 (by decide) ?_
      refine lv_topi (fun x4_4 e1 => ?_)
      have hf := lt1_n e1 hf
      refine lv_istore (lv' := [(4, .int x4_4), (0, .ref x0), (1, .int x1), (2, .int x2), (3, .int x3)]) hx hb dX12_swings_49 hl (by decide) rfl (fun ls hl => ?_)
      refine lv_iconst (v := 0) hx hb dX12_swings_51 (by decide) ?_
      refine lv_topi (fun x5_5 e1 => ?_)
      have hf := lt1_n e1 hf
      refine lv_istore (lv' := [(5, .int x5_5), (4, .int x4_4), (0, .ref x0), (1, .int x1), (2, .int x2), (3, .int x3)]) hx hb dX12_swings_52 hl (by decide) rfl (fun ls hl => ?_)
      obtain ⟨ex54, hl54, hk54⟩ := bs hf
      refine loop_W (P := fun st => ∀ (H : Heap) (locs : List Loc) (ls : Array Slot), wS E s m2 H locs → lv_has ls 6 [(0, .ref x0), (1, .int x1), (2, .int x2), (3, .int x3), (4, .int st.1), (5, .int st.2)] → W p l e R s m args below meth c H locs 0 0 Q (F0 m 54 ls [])) (ex := ex54) ?_ FU _ hl54 H locs ls hS (lv_sub hl [2, 3, 4, 5, 1, 0] rfl)
      intro st y54 hf hyL54 hyR54 H locs ls hS hl
      obtain ⟨x4, x5⟩ := st
      obtain ⟨mm, rfl⟩ : ∃ z, z = m2 := ⟨_, rfl⟩
      have hf : fX12_swings_b54 (eS E) x0 x1 x2 x3 x4 x5 mm = some y54 := hf
      have hS : wS E s mm H locs := hS
      have hl : lv_has ls 6 [(0, .ref x0), (1, .int x1), (2, .int x2), (3, .int x3), (4, .int x4), (5, .int x5)] := hl
      unfold fX12_swings_b54 at hf
      have hj81 : ∀ (x5 : Int32) (s0 : Int32) (s1 : Int32) (H : Heap) (locs : List Loc) (ls : Array Slot), fX12_swings_j81 (eS E) x0 x1 x2 x3 x5 s0 s1 mm = some y54 → wS E s mm H locs → lv_has ls 6 [(0, .ref x0), (1, .int x1), (2, .int x2), (3, .int x3), (5, .int x5)] → W p l e R s m args below meth c H locs 0 0 Q (F0 m 81 ls [.int s1, .int s0]) := by
        intro x5 s0 s1 H locs ls hf hS hl
        unfold fX12_swings_j81 at hf
        refine lv_iadd hx hb dX12_swings_81 ?_
        refine lv_topi (fun x4_6 e1 => ?_)
        have hf := lt1_n e1 hf
        refine lv_istore (lv' := [(4, .int x4_6), (0, .ref x0), (1, .int x1), (2, .int x2), (3, .int x3), (5, .int x5)]) hx hb dX12_swings_82 hl (by decide) rfl (fun ls hl => ?_)
        obtain ⟨x5_7, e1⟩ : ∃ z : Int32, z = x5 + 1 := ⟨_, rfl⟩
        have hf := lt1_n e1 hf
        refine lv_iinc (v := x5_7) (lv' := [(5, .int x5_7), (4, .int x4_6), (0, .ref x0), (1, .int x1), (2, .int x2), (3, .int x3)]) hx hb dX12_swings_84 hl (k := 5) rfl (by rw [e1]; rfl) (by decide) rfl (fun ls hl => ?_)
        refine lv_goto (tgt := 54) hx hb dX12_swings_87 (by decide) ?_
        exact hyL54 _ (Option.some.inj hf).symm H locs ls hS (lv_sub hl [2, 3, 4, 5, 1, 0] rfl)
      refine lv_iload hx hb dX12_swings_54 (lv_at hl 5 rfl) ?_
      refine lv_sipush (v := 128) hx hb dX12_swings_56 (by decide) ?_
      refine lv_icmp_ge (tgt := 90) hx hb dX12_swings_59 (by decide) (fun q8 => ?_) (fun q8 => ?_)
      · have hf := ifp hf q8
        obtain rfl : x4 = ex54 := hyR54 _ (Option.some.inj hf).symm
        exact hj90 x4 mm H locs ls hk54 hS (lv_sub hl [4] rfl)
      · have hf := ifn hf q8
        refine lv_iload hx hb dX12_swings_62 (lv_at hl 4 rfl) ?_
        refine lv_aload_n hx hb dX12_swings_64 rfl (lv_at hl 0 rfl) ?_
        refine lv_iload_n hx hb dX12_swings_65 rfl (lv_at hl 1 rfl) ?_
        refine lv_iload hx hb dX12_swings_66 (lv_at hl 5 rfl) ?_
        refine lv_iload_n hx hb dX12_swings_68 rfl (lv_at hl 2 rfl) ?_
        refine lv_iload_n hx hb dX12_swings_69 rfl (lv_at hl 3 rfl) ?_
        obtain ⟨u0, h0, hf⟩ := bs hf
        obtain ⟨_, hrc⟩ := isO_n h0
        obtain ⟨v9, h1, hf⟩ := bs hf
        refine am_endi hS (am_runV (As := [.int x1, .int x5, .int x2, .int x3]) X (hml.trans hl.1.symm) hS (cX12_isSwing_ok (l := l) (E := E) h1) mv_X12_424 hrc rfl ⟨Nat.le_trans (by decide) hR.1, Nat.le_trans (by decide) hR.2⟩ ⟨Nat.zero_le _, Nat.zero_le _⟩ rfl rfl (Nat.le_of_ble_eq_true rfl) dX12_swings_70) (fun H locs hS => ?_)
        refine lv_if_eq (tgt := 80) hx hb dX12_swings_73 (by decide) (fun q10 => ?_) (fun q10 => ?_)
        · have hf := ifp hf q10
          refine lv_iconst (v := 0) hx hb dX12_swings_80 (by decide) ?_
          exact hj81 x5 x4 0 H locs ls hf hS (lv_sub hl [0, 1, 2, 3, 5] rfl)
        · have hf := ifn hf q10
          refine lv_iconst (v := 1) hx hb dX12_swings_76 (by decide) ?_
          refine lv_goto (tgt := 81) hx hb dX12_swings_77 (by decide) ?_
          exact hj81 x5 x4 1 H locs ls hf hS (lv_sub hl [0, 1, 2, 3, 5] rfl)
    · have hf := ifp hf q3
      exact hj46 m2 H locs ls hf hS (lv_sub hl [] rfl)
  have hj37 : ∀ (x0 : Nat) (x1 : Int32) (x2 : Int32) (x3 : Int32) (s0 : Nat) (mm : Mem) (H : Heap) (locs : List Loc) (ls : Array Slot), fX12_swings_j37 (eS E) x0 x1 x2 x3 s0 mm = some (r, mm1) → wS E s mm H locs → lv_has ls 6 [(0, .ref x0), (1, .int x1), (2, .int x2), (3, .int x3)] → W p l e R s m args below meth c H locs 0 0 Q (F0 m 37 ls [.ref s0]) := by
    intro x0 x1 x2 x3 s0 mm H locs ls hf hS hl
    unfold fX12_swings_j37 at hf
    refine lv_iconst (v := 0) hx hb dX12_swings_37 (by decide) ?_
    exact hj38 x0 x1 x2 x3 s0 0 mm H locs ls hf hS hl
  intro H locs ls hS hl
  refine lv_aload_n hx hb dX12_swings_0 rfl (lv_at hl 0 rfl) ?_
  refine lv_iconst (v := 0) hx hb dX12_swings_1 (by decide) ?_
  obtain ⟨m11, h1, hf⟩ := bs hf
  refine am_pi X hS fp_X12_3 rfl h1 dX12_swings_2 (fun H locs hS => ?_)
  refine lv_aload_n hx hb dX12_swings_5 rfl (lv_at hl 0 rfl) ?_
  refine lv_iload_n hx hb dX12_swings_6 rfl (lv_at hl 1 rfl) ?_
  refine lv_iconst (v := 1) hx hb dX12_swings_7 (by decide) ?_
  obtain ⟨u0, h0, hf⟩ := bs hf
  obtain ⟨_, hrc⟩ := isO_n h0
  obtain ⟨v12, m13, h1, hf⟩ := bs2 hf
  refine am_endi hS (am_runV (As := [.int x1, .int 1]) X (hml.trans hl.1.symm) hS (cX12_isFellow_ok (l := l) (E := E) h1) mv_X12_377 hrc rfl ⟨Nat.le_trans (by decide) hR.1, Nat.le_trans (by decide) hR.2⟩ ⟨Nat.zero_le _, Nat.zero_le _⟩ rfl rfl (Nat.le_of_ble_eq_true rfl) dX12_swings_8) (fun H locs hS => ?_)
  refine lv_if_eq (tgt := 46) hx hb dX12_swings_11 (by decide) (fun q14 => ?_) (fun q14 => ?_)
  · have hf := ifp hf q14
    exact hj46 m13 H locs ls hf hS (lv_sub hl [] rfl)
  · have hf := ifn hf q14
    refine lv_aload_n hx hb dX12_swings_14 rfl (lv_at hl 0 rfl) ?_
    refine lv_iload_n hx hb dX12_swings_15 rfl (lv_at hl 2 rfl) ?_
    obtain ⟨v15, h1, hf⟩ := bs hf
    refine am_endi hS (am_runS (As := [.int x2]) X (hml.trans hl.1.symm) hS (cX12_isPart_ok (l := l) (E := E) h1) ms_X12_386 ⟨Nat.le_trans (by decide) hR.1, Nat.le_trans (by decide) hR.2⟩ ⟨Nat.zero_le _, Nat.zero_le _⟩ rfl rfl (Nat.le_of_ble_eq_true rfl) dX12_swings_16) (fun H locs hS => ?_)
    refine lv_if_eq (tgt := 37) hx hb dX12_swings_19 (by decide) (fun q16 => ?_) (fun q16 => ?_)
    · have hf := ifp hf q16
      exact hj37 x0 x1 x2 x3 x0 m13 H locs ls hf hS hl
    · have hf := ifn hf q16
      refine lv_iload_n hx hb dX12_swings_22 rfl (lv_at hl 3 rfl) ?_
      refine lv_iconst (v := 1) hx hb dX12_swings_23 (by decide) ?_
      refine lv_sipush (v := 2800) hx hb dX12_swings_24 (by decide) ?_
      obtain ⟨v17, h1, hf⟩ := bs hf
      refine am_endi hS (am_runS (As := [.int x3, .int 1, .int 2800]) X (hml.trans hl.1.symm) hS (cX12_within_ok (l := l) (E := E) h1) ms_X12_368 ⟨Nat.le_trans (by decide) hR.1, Nat.le_trans (by decide) hR.2⟩ ⟨Nat.zero_le _, Nat.zero_le _⟩ rfl rfl (Nat.le_of_ble_eq_true rfl) dX12_swings_27) (fun H locs hS => ?_)
      refine lv_if_eq (tgt := 37) hx hb dX12_swings_30 (by decide) (fun q18 => ?_) (fun q18 => ?_)
      · have hf := ifp hf q18
        exact hj37 x0 x1 x2 x3 x0 m13 H locs ls hf hS hl
      · have hf := ifn hf q18
        refine lv_iconst (v := 1) hx hb dX12_swings_33 (by decide) ?_
        refine lv_goto (tgt := 38) hx hb dX12_swings_34 (by decide) ?_
        exact hj38 x0 x1 x2 x3 x0 1 m13 H locs ls hf hS hl
set_option maxRecDepth 100000 in
theorem cX12_swings_ok {l : Launch} {E : Ev} {x0 : Nat} {x1 : Int32} {x2 : Int32} {x3 : Int32} {mm : Mem} {r : Int32} {mm1 : Mem} (hf : fX12_swings (eS E) x0 x1 x2 x3 mm = some (r, mm1)) : CtI l yX12_swings cX12_swings 6 (some .int) 3 70 E [.ref x0, .int x1, .int x2, .int x3] mm r mm1 := by
  refine Met.ofW (cc := cX12_swings) (maxL := 6) (ret := (some .int)) (by decide) rfl ?_
  intro p e s m args below meth c s₁ B hml hv
  obtain ⟨rfl, X, hS, hr, hlocks⟩ := am_in B hv
  refine am_entry (Nat.le_of_ble_eq_true rfl) (fun ls hl => ?_)
  exact wX12_swings X hml ⟨Nat.le_refl _, Nat.le_refl _⟩ hf (fun pc H locs ls hn hd hS => am_ri X hS hr hn hd hlocks) _ _ ls hS hl
set_option maxHeartbeats 4000000 in
set_option maxRecDepth 100000 in
theorem wX12_allOrders {p : Program} {l : Launch} {e : Env} {R : Room} {s : State} {m : MethodId} {args : Array Value} {below : List Frame} {meth : Method} {c : Code} {Q : State → Prop} {E : Ev} (X : Cx p s m args c cX12_allOrders RX12 E) (hml : c.maxLocals = 3) (hR : 0 ≤ R.frames ∧ 0 ≤ R.locals) {x0 : Int32} {mm : Mem} {r : Int32} (hf : fX12_allOrders x0 = some r) (hret : ∀ (pc : Nat) (H : Heap) (locs : List Loc) (ls : Array Slot), narrow .int (.int r) = .int r → decode cX12_allOrders pc = .ok (.ireturn, 1) → wS E s mm H locs → W p l e R s m args below meth c H locs 0 0 Q (F0 m pc ls [.int r])) : ∀ (H : Heap) (locs : List Loc) (ls : Array Slot), wS E s mm H locs → lv_has ls 3 [(0, .int x0)] → W p l e R s m args below meth c H locs 0 0 Q (F0 m 0 ls []) := by
  have hx := X.1
  have hb := X.2.1
  unfold fX12_allOrders at hf
  have hj19 : ∀ (x1 : Int32) (H : Heap) (locs : List Loc) (ls : Array Slot), fX12_allOrders_j19 x1 = some r → wS E s mm H locs → lv_has ls 3 [(1, .int x1)] → W p l e R s m args below meth c H locs 0 0 Q (F0 m 19 ls []) := by
    intro x1 H locs ls hf hS hl
    unfold fX12_allOrders_j19 at hf
    refine lv_iload_n hx hb dX12_allOrders_19 rfl (lv_at hl 0 rfl) ?_
    cases hf
    exact hret _ _ _ _ rfl dX12_allOrders_20 hS
  intro H locs ls hS hl
  refine lv_iconst (v := 1) hx hb dX12_allOrders_0 (by decide) ?_
  refine lv_topi (fun x1_1 e1 => ?_)
  have hf := lt1_n e1 hf
  refine lv_istore_n (lv' := [(1, .int x1_1), (0, .int x0)]) hx hb dX12_allOrders_1 rfl hl (by decide) rfl (fun ls hl => ?_)
  refine lv_iconst (v := 2) hx hb dX12_allOrders_2 (by decide) ?_
  refine lv_topi (fun x2_2 e1 => ?_)
  have hf := lt1_n e1 hf
  refine lv_istore_n (lv' := [(2, .int x2_2), (1, .int x1_1), (0, .int x0)]) hx hb dX12_allOrders_3 rfl hl (by decide) rfl (fun ls hl => ?_)
  obtain ⟨ex4, hl4, hk4⟩ := bs hf
  refine loop_W (P := fun st => ∀ (H : Heap) (locs : List Loc) (ls : Array Slot), wS E s mm H locs → lv_has ls 3 [(0, .int x0), (1, .int st.1), (2, .int st.2)] → W p l e R s m args below meth c H locs 0 0 Q (F0 m 4 ls [])) (ex := ex4) ?_ FU _ hl4 H locs ls hS (lv_sub hl [2, 1, 0] rfl)
  intro st y4 hf hyL4 hyR4 H locs ls hS hl
  obtain ⟨x1, x2⟩ := st
  have hf : fX12_allOrders_b4 x0 x1 x2 = some y4 := hf
  have hS : wS E s mm H locs := hS
  have hl : lv_has ls 3 [(0, .int x0), (1, .int x1), (2, .int x2)] := hl
  unfold fX12_allOrders_b4 at hf
  refine lv_iload_n hx hb dX12_allOrders_4 rfl (lv_at hl 2 rfl) ?_
  refine lv_iload_n hx hb dX12_allOrders_5 rfl (lv_at hl 0 rfl) ?_
  refine lv_icmp_gt (tgt := 19) hx hb dX12_allOrders_6 (by decide) (fun q3 => ?_) (fun q3 => ?_)
  · have hf := ifp hf q3
    obtain rfl : x1 = ex4 := hyR4 _ (Option.some.inj hf).symm
    exact hj19 x1 H locs ls hk4 hS (lv_sub hl [1] rfl)
  · have hf := ifn hf q3
    refine lv_iload_n hx hb dX12_allOrders_9 rfl (lv_at hl 1 rfl) ?_
    refine lv_iload_n hx hb dX12_allOrders_10 rfl (lv_at hl 2 rfl) ?_
    refine lv_imul hx hb dX12_allOrders_11 ?_
    refine lv_topi (fun x1_4 e1 => ?_)
    have hf := lt1_n e1 hf
    refine lv_istore_n (lv' := [(1, .int x1_4), (0, .int x0), (2, .int x2)]) hx hb dX12_allOrders_12 rfl hl (by decide) rfl (fun ls hl => ?_)
    obtain ⟨x2_5, e1⟩ : ∃ z : Int32, z = x2 + 1 := ⟨_, rfl⟩
    have hf := lt1_n e1 hf
    refine lv_iinc (v := x2_5) (lv' := [(2, .int x2_5), (1, .int x1_4), (0, .int x0)]) hx hb dX12_allOrders_13 hl (k := 2) rfl (by rw [e1]; rfl) (by decide) rfl (fun ls hl => ?_)
    refine lv_goto (tgt := 4) hx hb dX12_allOrders_16 (by decide) ?_
    exact hyL4 _ (Option.some.inj hf).symm H locs ls hS (lv_sub hl [2, 1, 0] rfl)
set_option maxRecDepth 100000 in
theorem cX12_allOrders_ok {l : Launch} {E : Ev} {x0 : Int32} {mm : Mem} {r : Int32} (hf : fX12_allOrders x0 = some r) : CtI l yX12_allOrders cX12_allOrders 3 (some .int) 0 0 E [.int x0] mm r mm := by
  refine Met.ofW (cc := cX12_allOrders) (maxL := 3) (ret := (some .int)) (by decide) rfl ?_
  intro p e s m args below meth c s₁ B hml hv
  obtain ⟨rfl, X, hS, hr, hlocks⟩ := am_in B hv
  refine am_entry (Nat.le_of_ble_eq_true rfl) (fun ls hl => ?_)
  exact wX12_allOrders X hml ⟨Nat.le_refl _, Nat.le_refl _⟩ hf (fun pc H locs ls hn hd hS => am_ri X hS hr hn hd hlocks) _ _ ls hS hl
set_option maxHeartbeats 4000000 in
set_option maxRecDepth 100000 in
theorem wX12_least {p : Program} {l : Launch} {e : Env} {R : Room} {s : State} {m : MethodId} {args : Array Value} {below : List Frame} {meth : Method} {c : Code} {Q : State → Prop} {E : Ev} (X : Cx p s m args c cX12_least RX12 E) (hml : c.maxLocals = 11) (hR : 0 ≤ R.frames ∧ 0 ≤ R.locals) {x0 : Int64} {x2 : Int64} {x4 : Int32} {mm : Mem} {r : Int64} (hf : fX12_least x0 x2 x4 = some r) (hret : ∀ (pc : Nat) (H : Heap) (locs : List Loc) (ls : Array Slot), decode cX12_least pc = .ok (.lreturn, 1) → wS E s mm H locs → W p l e R s m args below meth c H locs 0 0 Q (F0 m pc ls [.long r])) : ∀ (H : Heap) (locs : List Loc) (ls : Array Slot), wS E s mm H locs → lv_has ls 11 [(0, .long x0), (2, .long x2), (4, .int x4)] → W p l e R s m args below meth c H locs 0 0 Q (F0 m 0 ls []) := by
  have hx := X.1
  have hb := X.2.1
  unfold fX12_least at hf
  have hj41 : ∀ (x5 : Int64) (s0 : Int64) (H : Heap) (locs : List Loc) (ls : Array Slot), fX12_least_j41 x5 s0 = some r → wS E s mm H locs → lv_has ls 11 [(5, .long x5)] → W p l e R s m args below meth c H locs 0 0 Q (F0 m 41 ls [.long s0]) := by
    intro x5 s0 H locs ls hf hS hl
    unfold fX12_least_j41 at hf
    refine lv_lload hx hb dX12_least_41 (lv_at hl 0 rfl) ?_
    obtain ⟨v1, h1, hf⟩ := bs hf
    obtain ⟨h1, h2⟩ := dvL_n h1
    refine lv_ldiv hx hb dX12_least_43 h1 ?_
    rw [h2]
    cases hf
    exact hret _ _ _ _ dX12_least_44 hS
  have hj31 : ∀ (x0 : Int64) (x2 : Int64) (x4 : Int32) (x5 : Int64) (H : Heap) (locs : List Loc) (ls : Array Slot), fX12_least_j31 x0 x2 x4 x5 = some r → wS E s mm H locs → lv_has ls 11 [(0, .long x0), (2, .long x2), (4, .int x4), (5, .long x5)] → W p l e R s m args below meth c H locs 0 0 Q (F0 m 31 ls []) := by
    intro x0 x2 x4 x5 H locs ls hf hS hl
    unfold fX12_least_j31 at hf
    refine lv_iload hx hb dX12_least_31 (lv_at hl 2 rfl) ?_
    refine lv_if_ne (tgt := 40) hx hb dX12_least_33 (by decide) (fun q2 => ?_) (fun q2 => ?_)
    · have hf := ifn hf q2
      refine lv_lload_n hx hb dX12_least_40 rfl (lv_at hl 1 rfl) ?_
      exact hj41 x5 x2 H locs ls hf hS (lv_sub hl [3] rfl)
    · have hf := ifp hf q2
      refine lv_lload_n hx hb dX12_least_36 rfl (lv_at hl 0 rfl) ?_
      refine lv_goto (tgt := 41) hx hb dX12_least_37 (by decide) ?_
      exact hj41 x5 x0 H locs ls hf hS (lv_sub hl [3] rfl)
  intro H locs ls hS hl
  refine lv_lload_n hx hb dX12_least_0 rfl (lv_at hl 0 rfl) ?_
  refine lv_topl (fun x5_3 e1 => ?_)
  have hf := lt1_n e1 hf
  refine lv_lstore (lv' := [(5, .long x5_3), (0, .long x0), (2, .long x2), (4, .int x4)]) hx hb dX12_least_1 hl (by decide) rfl (fun ls hl => ?_)
  refine lv_lload_n hx hb dX12_least_3 rfl (lv_at hl 2 rfl) ?_
  refine lv_topl (fun x7_4 e1 => ?_)
  have hf := lt1_n e1 hf
  refine lv_lstore (lv' := [(7, .long x7_4), (5, .long x5_3), (0, .long x0), (2, .long x2), (4, .int x4)]) hx hb dX12_least_4 hl (by decide) rfl (fun ls hl => ?_)
  obtain ⟨ex6, hl6, hk6⟩ := bs hf
  refine loop_W (P := fun st => ∀ (H : Heap) (locs : List Loc) (ls : Array Slot), wS E s mm H locs → lv_has ls 11 [(0, .long x0), (2, .long x2), (4, .int x4), (5, .long st.1), (7, .long st.2)] → W p l e R s m args below meth c H locs 0 0 Q (F0 m 6 ls [])) (ex := ex6) ?_ FU _ hl6 H locs ls hS (lv_sub hl [2, 3, 4, 1, 0] rfl)
  intro st y6 hf hyL6 hyR6 H locs ls hS hl
  obtain ⟨x5, x7⟩ := st
  have hf : fX12_least_b6 x0 x2 x4 x5 x7 = some y6 := hf
  have hS : wS E s mm H locs := hS
  have hl : lv_has ls 11 [(0, .long x0), (2, .long x2), (4, .int x4), (5, .long x5), (7, .long x7)] := hl
  unfold fX12_least_b6 at hf
  refine lv_lload hx hb dX12_least_6 (lv_at hl 4 rfl) ?_
  refine lv_lconst (v := 0) hx hb dX12_least_8 (by decide) ?_
  refine W.lcmp hx hb dX12_least_9 ?_
  refine lv_if_eq (tgt := 31) hx hb dX12_least_10 (by decide) (fun q5 => ?_) (fun q5 => ?_)
  · have hf := ifp hf q5
    obtain rfl : x5 = ex6 := hyR6 _ (Option.some.inj hf).symm
    exact hj31 x0 x2 x4 x5 H locs ls hk6 hS (lv_sub hl [0, 1, 2, 3] rfl)
  · have hf := ifn hf q5
    refine lv_lload hx hb dX12_least_13 (lv_at hl 3 rfl) ?_
    refine lv_lload hx hb dX12_least_15 (lv_at hl 4 rfl) ?_
    obtain ⟨v6, h1, hf⟩ := bs hf
    obtain ⟨h1, h2⟩ := rmL_n h1
    refine lv_lrem hx hb dX12_least_17 h1 ?_
    rw [h2]
    refine lv_topl (fun x9_7 e1 => ?_)
    have hf := lt1_n e1 hf
    refine lv_lstore (lv' := [(9, .long x9_7), (0, .long x0), (2, .long x2), (4, .int x4), (5, .long x5), (7, .long x7)]) hx hb dX12_least_18 hl (by decide) rfl (fun ls hl => ?_)
    refine lv_lload hx hb dX12_least_20 (lv_at hl 5 rfl) ?_
    refine lv_topl (fun x5_8 e1 => ?_)
    have hf := lt1_n e1 hf
    refine lv_lstore (lv' := [(5, .long x5_8), (9, .long x9_7), (0, .long x0), (2, .long x2), (4, .int x4), (7, .long x7)]) hx hb dX12_least_22 hl (by decide) rfl (fun ls hl => ?_)
    refine lv_lload hx hb dX12_least_24 (lv_at hl 1 rfl) ?_
    refine lv_topl (fun x7_9 e1 => ?_)
    have hf := lt1_n e1 hf
    refine lv_lstore (lv' := [(7, .long x7_9), (5, .long x5_8), (9, .long x9_7), (0, .long x0), (2, .long x2), (4, .int x4)]) hx hb dX12_least_26 hl (by decide) rfl (fun ls hl => ?_)
    refine lv_goto (tgt := 6) hx hb dX12_least_28 (by decide) ?_
    exact hyL6 _ (Option.some.inj hf).symm H locs ls hS (lv_sub hl [3, 4, 5, 1, 0] rfl)
set_option maxRecDepth 100000 in
theorem cX12_least_ok {l : Launch} {E : Ev} {x0 : Int64} {x2 : Int64} {x4 : Int32} {mm : Mem} {r : Int64} (hf : fX12_least x0 x2 x4 = some r) : CtL l yX12_least cX12_least 11 (some .long) 0 0 E [.long x0, .long x2, .int x4] mm r mm := by
  refine Met.ofW (cc := cX12_least) (maxL := 11) (ret := (some .long)) (by decide) rfl ?_
  intro p e s m args below meth c s₁ B hml hv
  obtain ⟨rfl, X, hS, hr, hlocks⟩ := am_in B hv
  refine am_entry (Nat.le_of_ble_eq_true rfl) (fun ls hl => ?_)
  exact wX12_least X hml ⟨Nat.le_refl _, Nat.le_refl _⟩ hf (fun pc H locs ls hd hS => am_rl X hS hr hd hlocks) _ _ ls hS hl
set_option maxHeartbeats 4000000 in
set_option maxRecDepth 100000 in
theorem wX12_power {p : Program} {l : Launch} {e : Env} {R : Room} {s : State} {m : MethodId} {args : Array Value} {below : List Frame} {meth : Method} {c : Code} {Q : State → Prop} {E : Ev} (X : Cx p s m args c cX12_power RX12 E) (hml : c.maxLocals = 7) (hR : 3 ≤ R.frames ∧ 70 ≤ R.locals) {x0 : Nat} {x1 : Int32} {x2 : Int32} {x3 : Int32} {x4 : Int32} {mm : Mem} {r : Int32} {mm1 : Mem} (hf : fX12_power (eS E) x0 x1 x2 x3 x4 mm = some (r, mm1)) (hret : ∀ (pc : Nat) (H : Heap) (locs : List Loc) (ls : Array Slot), narrow .int (.int r) = .int r → decode cX12_power pc = .ok (.ireturn, 1) → wS E s mm1 H locs → W p l e R s m args below meth c H locs 0 0 Q (F0 m pc ls [.int r])) : ∀ (H : Heap) (locs : List Loc) (ls : Array Slot), wS E s mm H locs → lv_has ls 7 [(0, .ref x0), (1, .int x1), (2, .int x2), (3, .int x3), (4, .int x4)] → W p l e R s m args below meth c H locs 0 0 Q (F0 m 0 ls []) := by
  have hx := X.1
  have hb := X.2.1
  unfold fX12_power at hf
  have hj56 : ∀ (mm : Mem) (H : Heap) (locs : List Loc) (ls : Array Slot), fX12_power_j56 (eS E) mm = some (r, mm1) → wS E s mm H locs → lv_has ls 7 [] → W p l e R s m args below meth c H locs 0 0 Q (F0 m 56 ls []) := by
    intro mm H locs ls hf hS hl
    unfold fX12_power_j56 at hf
    refine lv_iconst (v := 0) hx hb dX12_power_56 (by decide) ?_
    cases hf
    exact hret _ _ _ _ rfl dX12_power_57 hS
  have hj115 : ∀ (x4 : Int32) (x5 : Int32) (mm : Mem) (H : Heap) (locs : List Loc) (ls : Array Slot), fX12_power_j115 (eS E) x4 x5 mm = some (r, mm1) → wS E s mm H locs → lv_has ls 7 [(4, .int x4), (5, .int x5)] → W p l e R s m args below meth c H locs 0 0 Q (F0 m 115 ls []) := by
    intro x4 x5 mm H locs ls hf hS hl
    unfold fX12_power_j115 at hf
    refine lv_iload hx hb dX12_power_115 (lv_at hl 1 rfl) ?_
    refine lv_i2l (v := ((x5).toInt64)) hx hb dX12_power_117 rfl ?_
    refine lv_bipush (v := 7) hx hb dX12_power_118 (by decide) ?_
    obtain ⟨v1, h1, hf⟩ := bs hf
    refine am_endi hS (am_runS (As := [.int 7]) X (hml.trans hl.1.symm) hS (cX12_allOrders_ok (l := l) (E := E) h1) ms_X12_427 ⟨Nat.le_trans (by decide) hR.1, Nat.le_trans (by decide) hR.2⟩ ⟨Nat.zero_le _, Nat.zero_le _⟩ rfl rfl (Nat.le_of_ble_eq_true rfl) dX12_power_120) (fun H locs hS => ?_)
    refine lv_i2l (v := ((v1).toInt64)) hx hb dX12_power_123 rfl ?_
    refine lv_iload hx hb dX12_power_124 (lv_at hl 0 rfl) ?_
    obtain ⟨v2, h1, hf⟩ := bs hf
    refine am_endl hS (am_runS (As := [.long ((x5).toInt64), .long ((v1).toInt64), .int x4]) X (hml.trans hl.1.symm) hS (cX12_least_ok (l := l) (E := E) h1) ms_X12_430 ⟨Nat.le_trans (by decide) hR.1, Nat.le_trans (by decide) hR.2⟩ ⟨Nat.zero_le _, Nat.zero_le _⟩ rfl rfl (Nat.le_of_ble_eq_true rfl) dX12_power_126) (fun H locs hS => ?_)
    refine lv_l2i (v := ((v2).toInt32)) hx hb dX12_power_129 rfl ?_
    cases hf
    exact hret _ _ _ _ rfl dX12_power_130 hS
  have hj48 : ∀ (x0 : Nat) (x1 : Int32) (x2 : Int32) (x3 : Int32) (x4 : Int32) (s0 : Nat) (s1 : Int32) (mm : Mem) (H : Heap) (locs : List Loc) (ls : Array Slot), fX12_power_j48 (eS E) x0 x1 x2 x3 x4 s0 s1 mm = some (r, mm1) → wS E s mm H locs → lv_has ls 7 [(0, .ref x0), (1, .int x1), (2, .int x2), (3, .int x3), (4, .int x4)] → W p l e R s m args below meth c H locs 0 0 Q (F0 m 48 ls [.int s1, .ref s0]) := by
    intro x0 x1 x2 x3 x4 s0 s1 mm H locs ls hf hS hl
    unfold fX12_power_j48 at hf
    refine lv_iconst (v := 2) hx hb dX12_power_48 (by decide) ?_
    refine lv_iconst (v := 1) hx hb dX12_power_49 (by decide) ?_
    obtain ⟨u0, h0, hf⟩ := bs hf
    obtain ⟨_, hrc⟩ := isO_n h0
    obtain ⟨v3, m4, h1, hf⟩ := bs2 hf
    refine am_endi hS (am_runV (As := [.int s1, .int 2, .int 1]) X (hml.trans hl.1.symm) hS (cX12_may_ok (l := l) (E := E) h1) mv_X12_190 hrc rfl ⟨Nat.le_trans (by decide) hR.1, Nat.le_trans (by decide) hR.2⟩ ⟨Nat.zero_le _, Nat.zero_le _⟩ rfl rfl (Nat.le_of_ble_eq_true rfl) dX12_power_50) (fun H locs hS => ?_)
    refine lv_if_ne (tgt := 58) hx hb dX12_power_53 (by decide) (fun q5 => ?_) (fun q5 => ?_)
    · have hf := ifn hf q5
      refine lv_iconst (v := 0) hx hb dX12_power_58 (by decide) ?_
      refine lv_topi (fun x5_6 e1 => ?_)
      have hf := lt1_n e1 hf
      refine lv_istore (lv' := [(5, .int x5_6), (0, .ref x0), (1, .int x1), (2, .int x2), (3, .int x3), (4, .int x4)]) hx hb dX12_power_59 hl (by decide) rfl (fun ls hl => ?_)
      refine lv_iconst (v := 0) hx hb dX12_power_61 (by decide) ?_
      refine lv_topi (fun x6_7 e1 => ?_)
      have hf := lt1_n e1 hf
      refine lv_istore (lv' := [(6, .int x6_7), (5, .int x5_6), (0, .ref x0), (1, .int x1), (2, .int x2), (3, .int x3), (4, .int x4)]) hx hb dX12_power_62 hl (by decide) rfl (fun ls hl => ?_)
      obtain ⟨ex64, hl64, hk64⟩ := bs hf
      refine loop_W (P := fun st => ∀ (H : Heap) (locs : List Loc) (ls : Array Slot), wS E s m4 H locs → lv_has ls 7 [(0, .ref x0), (1, .int x1), (2, .int x2), (3, .int x3), (4, .int x4), (5, .int st.1), (6, .int st.2)] → W p l e R s m args below meth c H locs 0 0 Q (F0 m 64 ls [])) (ex := ex64) ?_ FU _ hl64 H locs ls hS (lv_sub hl [2, 3, 4, 5, 6, 1, 0] rfl)
      intro st y64 hf hyL64 hyR64 H locs ls hS hl
      obtain ⟨x5, x6⟩ := st
      obtain ⟨mm, rfl⟩ : ∃ z, z = m4 := ⟨_, rfl⟩
      have hf : fX12_power_b64 (eS E) x0 x1 x2 x3 x4 x5 x6 mm = some y64 := hf
      have hS : wS E s mm H locs := hS
      have hl : lv_has ls 7 [(0, .ref x0), (1, .int x1), (2, .int x2), (3, .int x3), (4, .int x4), (5, .int x5), (6, .int x6)] := hl
      unfold fX12_power_b64 at hf
      have hj109 : ∀ (x5 : Int32) (x6 : Int32) (H : Heap) (locs : List Loc) (ls : Array Slot), fX12_power_j109 (eS E) x0 x1 x2 x3 x4 x5 x6 mm = some y64 → wS E s mm H locs → lv_has ls 7 [(0, .ref x0), (1, .int x1), (2, .int x2), (3, .int x3), (4, .int x4), (5, .int x5), (6, .int x6)] → W p l e R s m args below meth c H locs 0 0 Q (F0 m 109 ls []) := by
        intro x5 x6 H locs ls hf hS hl
        unfold fX12_power_j109 at hf
        obtain ⟨x6_8, e1⟩ : ∃ z : Int32, z = x6 + 1 := ⟨_, rfl⟩
        have hf := lt1_n e1 hf
        refine lv_iinc (v := x6_8) (lv' := [(6, .int x6_8), (0, .ref x0), (1, .int x1), (2, .int x2), (3, .int x3), (4, .int x4), (5, .int x5)]) hx hb dX12_power_109 hl (k := 6) rfl (by rw [e1]; rfl) (by decide) rfl (fun ls hl => ?_)
        refine lv_goto (tgt := 64) hx hb dX12_power_112 (by decide) ?_
        exact hyL64 _ (Option.some.inj hf).symm H locs ls hS (lv_sub hl [1, 2, 3, 4, 5, 6, 0] rfl)
      refine lv_iload hx hb dX12_power_64 (lv_at hl 6 rfl) ?_
      refine lv_sipush (v := 128) hx hb dX12_power_66 (by decide) ?_
      refine lv_icmp_ge (tgt := 115) hx hb dX12_power_69 (by decide) (fun q9 => ?_) (fun q9 => ?_)
      · have hf := ifp hf q9
        obtain rfl : x5 = ex64 := hyR64 _ (Option.some.inj hf).symm
        exact hj115 x4 x5 mm H locs ls hk64 hS (lv_sub hl [4, 5] rfl)
      · have hf := ifn hf q9
        refine lv_aload_n hx hb dX12_power_72 rfl (lv_at hl 0 rfl) ?_
        refine lv_iload_n hx hb dX12_power_73 rfl (lv_at hl 1 rfl) ?_
        refine lv_iload hx hb dX12_power_74 (lv_at hl 6 rfl) ?_
        refine lv_iload_n hx hb dX12_power_76 rfl (lv_at hl 2 rfl) ?_
        refine lv_iload_n hx hb dX12_power_77 rfl (lv_at hl 3 rfl) ?_
        obtain ⟨u0, h0, hf⟩ := bs hf
        obtain ⟨_, hrc⟩ := isO_n h0
        obtain ⟨v10, h1, hf⟩ := bs hf
        refine am_endi hS (am_runV (As := [.int x1, .int x6, .int x2, .int x3]) X (hml.trans hl.1.symm) hS (cX12_isSwing_ok (l := l) (E := E) h1) mv_X12_424 hrc rfl ⟨Nat.le_trans (by decide) hR.1, Nat.le_trans (by decide) hR.2⟩ ⟨Nat.zero_le _, Nat.zero_le _⟩ rfl rfl (Nat.le_of_ble_eq_true rfl) dX12_power_78) (fun H locs hS => ?_)
        refine lv_if_eq (tgt := 109) hx hb dX12_power_81 (by decide) (fun q11 => ?_) (fun q11 => ?_)
        · have hf := ifp hf q11
          exact hj109 x5 x6 H locs ls hf hS hl
        · have hf := ifn hf q11
          refine lv_iload hx hb dX12_power_84 (lv_at hl 5 rfl) ?_
          refine lv_iload hx hb dX12_power_86 (lv_at hl 6 rfl) ?_
          obtain ⟨v12, h1, hf⟩ := bs hf
          refine am_endi hS (am_runS (As := [.int x6]) X (hml.trans hl.1.symm) hS (cX12_ones_ok (l := l) (E := E) h1) ms_X12_404 ⟨Nat.le_trans (by decide) hR.1, Nat.le_trans (by decide) hR.2⟩ ⟨Nat.zero_le _, Nat.zero_le _⟩ rfl rfl (Nat.le_of_ble_eq_true rfl) dX12_power_88) (fun H locs hS => ?_)
          obtain ⟨v13, h1, hf⟩ := bs hf
          refine am_endi hS (am_runS (As := [.int v12]) X (hml.trans hl.1.symm) hS (cX12_allOrders_ok (l := l) (E := E) h1) ms_X12_427 ⟨Nat.le_trans (by decide) hR.1, Nat.le_trans (by decide) hR.2⟩ ⟨Nat.zero_le _, Nat.zero_le _⟩ rfl rfl (Nat.le_of_ble_eq_true rfl) dX12_power_91) (fun H locs hS => ?_)
          refine lv_bipush (v := 6) hx hb dX12_power_94 (by decide) ?_
          refine lv_iload hx hb dX12_power_96 (lv_at hl 6 rfl) ?_
          obtain ⟨v14, h1, hf⟩ := bs hf
          refine am_endi hS (am_runS (As := [.int x6]) X (hml.trans hl.1.symm) hS (cX12_ones_ok (l := l) (E := E) h1) ms_X12_404 ⟨Nat.le_trans (by decide) hR.1, Nat.le_trans (by decide) hR.2⟩ ⟨Nat.zero_le _, Nat.zero_le _⟩ rfl rfl (Nat.le_of_ble_eq_true rfl) dX12_power_98) (fun H locs hS => ?_)
          refine lv_isub hx hb dX12_power_101 ?_
          obtain ⟨v15, h1, hf⟩ := bs hf
          refine am_endi hS (am_runS (As := [.int (6 - v14)]) X (hml.trans hl.1.symm) hS (cX12_allOrders_ok (l := l) (E := E) h1) ms_X12_427 ⟨Nat.le_trans (by decide) hR.1, Nat.le_trans (by decide) hR.2⟩ ⟨Nat.zero_le _, Nat.zero_le _⟩ rfl rfl (Nat.le_of_ble_eq_true rfl) dX12_power_102) (fun H locs hS => ?_)
          refine lv_imul hx hb dX12_power_105 ?_
          refine lv_iadd hx hb dX12_power_106 ?_
          refine lv_topi (fun x5_16 e1 => ?_)
          have hf := lt1_n e1 hf
          refine lv_istore (lv' := [(5, .int x5_16), (0, .ref x0), (1, .int x1), (2, .int x2), (3, .int x3), (4, .int x4), (6, .int x6)]) hx hb dX12_power_107 hl (by decide) rfl (fun ls hl => ?_)
          exact hj109 x5_16 x6 H locs ls hf hS (lv_sub hl [1, 2, 3, 4, 5, 0, 6] rfl)
    · have hf := ifp hf q5
      exact hj56 m4 H locs ls hf hS (lv_sub hl [] rfl)
  have hj47 : ∀ (x0 : Nat) (x1 : Int32) (x2 : Int32) (x3 : Int32) (x4 : Int32) (s0 : Nat) (mm : Mem) (H : Heap) (locs : List Loc) (ls : Array Slot), fX12_power_j47 (eS E) x0 x1 x2 x3 x4 s0 mm = some (r, mm1) → wS E s mm H locs → lv_has ls 7 [(0, .ref x0), (1, .int x1), (2, .int x2), (3, .int x3), (4, .int x4)] → W p l e R s m args below meth c H locs 0 0 Q (F0 m 47 ls [.ref s0]) := by
    intro x0 x1 x2 x3 x4 s0 mm H locs ls hf hS hl
    unfold fX12_power_j47 at hf
    refine lv_iconst (v := 0) hx hb dX12_power_47 (by decide) ?_
    exact hj48 x0 x1 x2 x3 x4 s0 0 mm H locs ls hf hS hl
  intro H locs ls hS hl
  refine lv_aload_n hx hb dX12_power_0 rfl (lv_at hl 0 rfl) ?_
  refine lv_iconst (v := 0) hx hb dX12_power_1 (by decide) ?_
  obtain ⟨m17, h1, hf⟩ := bs hf
  refine am_pi X hS fp_X12_3 rfl h1 dX12_power_2 (fun H locs hS => ?_)
  refine lv_aload_n hx hb dX12_power_5 rfl (lv_at hl 0 rfl) ?_
  refine lv_iload_n hx hb dX12_power_6 rfl (lv_at hl 1 rfl) ?_
  refine lv_iconst (v := 1) hx hb dX12_power_7 (by decide) ?_
  obtain ⟨u0, h0, hf⟩ := bs hf
  obtain ⟨_, hrc⟩ := isO_n h0
  obtain ⟨v18, m19, h1, hf⟩ := bs2 hf
  refine am_endi hS (am_runV (As := [.int x1, .int 1]) X (hml.trans hl.1.symm) hS (cX12_isFellow_ok (l := l) (E := E) h1) mv_X12_377 hrc rfl ⟨Nat.le_trans (by decide) hR.1, Nat.le_trans (by decide) hR.2⟩ ⟨Nat.zero_le _, Nat.zero_le _⟩ rfl rfl (Nat.le_of_ble_eq_true rfl) dX12_power_8) (fun H locs hS => ?_)
  refine lv_if_eq (tgt := 56) hx hb dX12_power_11 (by decide) (fun q20 => ?_) (fun q20 => ?_)
  · have hf := ifp hf q20
    exact hj56 m19 H locs ls hf hS (lv_sub hl [] rfl)
  · have hf := ifn hf q20
    refine lv_aload_n hx hb dX12_power_14 rfl (lv_at hl 0 rfl) ?_
    refine lv_iload_n hx hb dX12_power_15 rfl (lv_at hl 2 rfl) ?_
    obtain ⟨v21, h1, hf⟩ := bs hf
    refine am_endi hS (am_runS (As := [.int x2]) X (hml.trans hl.1.symm) hS (cX12_isPart_ok (l := l) (E := E) h1) ms_X12_386 ⟨Nat.le_trans (by decide) hR.1, Nat.le_trans (by decide) hR.2⟩ ⟨Nat.zero_le _, Nat.zero_le _⟩ rfl rfl (Nat.le_of_ble_eq_true rfl) dX12_power_16) (fun H locs hS => ?_)
    refine lv_if_eq (tgt := 47) hx hb dX12_power_19 (by decide) (fun q22 => ?_) (fun q22 => ?_)
    · have hf := ifp hf q22
      exact hj47 x0 x1 x2 x3 x4 x0 m19 H locs ls hf hS hl
    · have hf := ifn hf q22
      refine lv_iload_n hx hb dX12_power_22 rfl (lv_at hl 3 rfl) ?_
      refine lv_iconst (v := 1) hx hb dX12_power_23 (by decide) ?_
      refine lv_sipush (v := 2800) hx hb dX12_power_24 (by decide) ?_
      obtain ⟨v23, h1, hf⟩ := bs hf
      refine am_endi hS (am_runS (As := [.int x3, .int 1, .int 2800]) X (hml.trans hl.1.symm) hS (cX12_within_ok (l := l) (E := E) h1) ms_X12_368 ⟨Nat.le_trans (by decide) hR.1, Nat.le_trans (by decide) hR.2⟩ ⟨Nat.zero_le _, Nat.zero_le _⟩ rfl rfl (Nat.le_of_ble_eq_true rfl) dX12_power_27) (fun H locs hS => ?_)
      refine lv_if_eq (tgt := 47) hx hb dX12_power_30 (by decide) (fun q24 => ?_) (fun q24 => ?_)
      · have hf := ifp hf q24
        exact hj47 x0 x1 x2 x3 x4 x0 m19 H locs ls hf hS hl
      · have hf := ifn hf q24
        refine lv_iload hx hb dX12_power_33 (lv_at hl 4 rfl) ?_
        refine lv_iconst (v := 0) hx hb dX12_power_35 (by decide) ?_
        refine lv_iconst (v := 1) hx hb dX12_power_36 (by decide) ?_
        obtain ⟨v25, h1, hf⟩ := bs hf
        refine am_endi hS (am_runS (As := [.int x4, .int 0, .int 1]) X (hml.trans hl.1.symm) hS (cX12_within_ok (l := l) (E := E) h1) ms_X12_368 ⟨Nat.le_trans (by decide) hR.1, Nat.le_trans (by decide) hR.2⟩ ⟨Nat.zero_le _, Nat.zero_le _⟩ rfl rfl (Nat.le_of_ble_eq_true rfl) dX12_power_37) (fun H locs hS => ?_)
        refine lv_if_eq (tgt := 47) hx hb dX12_power_40 (by decide) (fun q26 => ?_) (fun q26 => ?_)
        · have hf := ifp hf q26
          exact hj47 x0 x1 x2 x3 x4 x0 m19 H locs ls hf hS hl
        · have hf := ifn hf q26
          refine lv_iconst (v := 1) hx hb dX12_power_43 (by decide) ?_
          refine lv_goto (tgt := 48) hx hb dX12_power_44 (by decide) ?_
          exact hj48 x0 x1 x2 x3 x4 x0 1 m19 H locs ls hf hS hl
set_option maxRecDepth 100000 in
theorem cX12_power_ok {l : Launch} {E : Ev} {x0 : Nat} {x1 : Int32} {x2 : Int32} {x3 : Int32} {x4 : Int32} {mm : Mem} {r : Int32} {mm1 : Mem} (hf : fX12_power (eS E) x0 x1 x2 x3 x4 mm = some (r, mm1)) : CtI l yX12_power cX12_power 7 (some .int) 3 70 E [.ref x0, .int x1, .int x2, .int x3, .int x4] mm r mm1 := by
  refine Met.ofW (cc := cX12_power) (maxL := 7) (ret := (some .int)) (by decide) rfl ?_
  intro p e s m args below meth c s₁ B hml hv
  obtain ⟨rfl, X, hS, hr, hlocks⟩ := am_in B hv
  refine am_entry (Nat.le_of_ble_eq_true rfl) (fun ls hl => ?_)
  exact wX12_power X hml ⟨Nat.le_refl _, Nat.le_refl _⟩ hf (fun pc H locs ls hn hd hS => am_ri X hS hr hn hd hlocks) _ _ ls hS hl
set_option maxHeartbeats 4000000 in
set_option maxRecDepth 100000 in
theorem wX12_green {p : Program} {l : Launch} {e : Env} {R : Room} {s : State} {m : MethodId} {args : Array Value} {below : List Frame} {meth : Method} {c : Code} {Q : State → Prop} {E : Ev} (X : Cx p s m args c cX12_green RX12 E) (hml : c.maxLocals = 9) (hR : 1 ≤ R.frames ∧ 30 ≤ R.locals) {x0 : Nat} {x1 : Int32} {x2 : Int32} {x3 : Int32} {mm : Mem} {r : Int64} {mm1 : Mem} (hf : fX12_green (eS E) x0 x1 x2 x3 mm = some (r, mm1)) (hret : ∀ (pc : Nat) (H : Heap) (locs : List Loc) (ls : Array Slot), decode cX12_green pc = .ok (.lreturn, 1) → wS E s mm1 H locs → W p l e R s m args below meth c H locs 0 0 Q (F0 m pc ls [.long r])) : ∀ (H : Heap) (locs : List Loc) (ls : Array Slot), wS E s mm H locs → lv_has ls 9 [(0, .ref x0), (1, .int x1), (2, .int x2), (3, .int x3)] → W p l e R s m args below meth c H locs 0 0 Q (F0 m 0 ls []) := by
  have hx := X.1
  have hb := X.2.1
  unfold fX12_green at hf
  have hj89 : ∀ (x3 : Int32) (x4 : Int64) (x6 : Int64) (mm : Mem) (H : Heap) (locs : List Loc) (ls : Array Slot), fX12_green_j89 (eS E) x3 x4 x6 mm = some (r, mm1) → wS E s mm H locs → lv_has ls 9 [(3, .int x3), (4, .long x4), (6, .long x6)] → W p l e R s m args below meth c H locs 0 0 Q (F0 m 89 ls []) := by
    intro x3 x4 x6 mm H locs ls hf hS hl
    unfold fX12_green_j89 at hf
    refine lv_lload hx hb dX12_green_89 (lv_at hl 2 rfl) ?_
    refine lv_lload hx hb dX12_green_91 (lv_at hl 1 rfl) ?_
    refine lv_lsub hx hb dX12_green_93 ?_
    refine lv_lload hx hb dX12_green_94 (lv_at hl 2 rfl) ?_
    refine lv_iload_n hx hb dX12_green_96 rfl (lv_at hl 0 rfl) ?_
    obtain ⟨v1, h1, hf⟩ := bs hf
    refine am_endl hS (am_runS (As := [.long (x6 - x4), .long x6, .int x3]) X (hml.trans hl.1.symm) hS (cX12_least_ok (l := l) (E := E) h1) ms_X12_430 ⟨Nat.le_trans (by decide) hR.1, Nat.le_trans (by decide) hR.2⟩ ⟨Nat.zero_le _, Nat.zero_le _⟩ rfl rfl (Nat.le_of_ble_eq_true rfl) dX12_green_97) (fun H locs hS => ?_)
    cases hf
    exact hret _ _ _ _ dX12_green_100 hS
  have hj40 : ∀ (x1 : Int32) (x2 : Int32) (x3 : Int32) (s0 : Nat) (s1 : Int32) (mm : Mem) (H : Heap) (locs : List Loc) (ls : Array Slot), fX12_green_j40 (eS E) x1 x2 x3 s0 s1 mm = some (r, mm1) → wS E s mm H locs → lv_has ls 9 [(1, .int x1), (2, .int x2), (3, .int x3)] → W p l e R s m args below meth c H locs 0 0 Q (F0 m 40 ls [.int s1, .ref s0]) := by
    intro x1 x2 x3 s0 s1 mm H locs ls hf hS hl
    unfold fX12_green_j40 at hf
    refine lv_iconst (v := 1) hx hb dX12_green_40 (by decide) ?_
    refine lv_iconst (v := 1) hx hb dX12_green_41 (by decide) ?_
    obtain ⟨u0, h0, hf⟩ := bs hf
    obtain ⟨_, hrc⟩ := isO_n h0
    obtain ⟨v2, m3, h1, hf⟩ := bs2 hf
    refine am_endi hS (am_runV (As := [.int s1, .int 1, .int 1]) X (hml.trans hl.1.symm) hS (cX12_may_ok (l := l) (E := E) h1) mv_X12_190 hrc rfl ⟨Nat.le_trans (by decide) hR.1, Nat.le_trans (by decide) hR.2⟩ ⟨Nat.zero_le _, Nat.zero_le _⟩ rfl rfl (Nat.le_of_ble_eq_true rfl) dX12_green_42) (fun H locs hS => ?_)
    refine lv_if_ne (tgt := 50) hx hb dX12_green_45 (by decide) (fun q4 => ?_) (fun q4 => ?_)
    · have hf := ifn hf q4
      refine lv_lconst (v := 1) hx hb dX12_green_50 (by decide) ?_
      refine lv_topl (fun x4_5 e1 => ?_)
      have hf := lt1_n e1 hf
      refine lv_lstore (lv' := [(4, .long x4_5), (1, .int x1), (2, .int x2), (3, .int x3)]) hx hb dX12_green_51 hl (by decide) rfl (fun ls hl => ?_)
      refine lv_lconst (v := 1) hx hb dX12_green_53 (by decide) ?_
      refine lv_topl (fun x6_6 e1 => ?_)
      have hf := lt1_n e1 hf
      refine lv_lstore (lv' := [(6, .long x6_6), (4, .long x4_5), (1, .int x1), (2, .int x2), (3, .int x3)]) hx hb dX12_green_54 hl (by decide) rfl (fun ls hl => ?_)
      refine lv_iconst (v := 0) hx hb dX12_green_56 (by decide) ?_
      refine lv_topi (fun x8_7 e1 => ?_)
      have hf := lt1_n e1 hf
      refine lv_istore (lv' := [(8, .int x8_7), (6, .long x6_6), (4, .long x4_5), (1, .int x1), (2, .int x2), (3, .int x3)]) hx hb dX12_green_57 hl (by decide) rfl (fun ls hl => ?_)
      obtain ⟨ex59, hl59, hk59⟩ := bs hf
      refine loop_W (P := fun st => ∀ (H : Heap) (locs : List Loc) (ls : Array Slot), wS E s m3 H locs → lv_has ls 9 [(1, .int x1), (2, .int x2), (3, .int x3), (4, .long st.1), (6, .long st.2.1), (8, .int st.2.2)] → W p l e R s m args below meth c H locs 0 0 Q (F0 m 59 ls [])) (ex := ex59) ?_ FU _ hl59 H locs ls hS (lv_sub hl [3, 4, 5, 2, 1, 0] rfl)
      intro st y59 hf hyL59 hyR59 H locs ls hS hl
      obtain ⟨x4, x6, x8⟩ := st
      obtain ⟨mm, rfl⟩ : ∃ z, z = m3 := ⟨_, rfl⟩
      have hf : fX12_green_b59 (eS E) x1 x2 x3 x4 x6 x8 mm = some y59 := hf
      have hS : wS E s mm H locs := hS
      have hl : lv_has ls 9 [(1, .int x1), (2, .int x2), (3, .int x3), (4, .long x4), (6, .long x6), (8, .int x8)] := hl
      unfold fX12_green_b59 at hf
      refine lv_iload hx hb dX12_green_59 (lv_at hl 5 rfl) ?_
      refine lv_iload_n hx hb dX12_green_61 rfl (lv_at hl 0 rfl) ?_
      refine lv_icmp_ge (tgt := 89) hx hb dX12_green_62 (by decide) (fun q8 => ?_) (fun q8 => ?_)
      · have hf := ifp hf q8
        obtain rfl : (x4, x6) = ex59 := hyR59 _ (Option.some.inj hf).symm
        exact hj89 x3 x4 x6 mm H locs ls hk59 hS (lv_sub hl [2, 3, 4] rfl)
      · have hf := ifn hf q8
        refine lv_lload hx hb dX12_green_65 (lv_at hl 3 rfl) ?_
        refine lv_bipush (v := 16) hx hb dX12_green_67 (by decide) ?_
        refine lv_iload_n hx hb dX12_green_69 rfl (lv_at hl 1 rfl) ?_
        refine lv_isub hx hb dX12_green_70 ?_
        refine lv_i2l (v := (((16 - x2)).toInt64)) hx hb dX12_green_71 rfl ?_
        refine lv_lmul hx hb dX12_green_72 ?_
        refine lv_topl (fun x4_9 e1 => ?_)
        have hf := lt1_n e1 hf
        refine lv_lstore (lv' := [(4, .long x4_9), (1, .int x1), (2, .int x2), (3, .int x3), (6, .long x6), (8, .int x8)]) hx hb dX12_green_73 hl (by decide) rfl (fun ls hl => ?_)
        refine lv_lload hx hb dX12_green_75 (lv_at hl 4 rfl) ?_
        refine lv_ldc2 (v := 16) hx hb X.2.2.2.1 (X.2.2.1 _ (inBi 1889 (by decide +kernel))) dX12_green_77 ?_
        refine lv_lmul hx hb dX12_green_80 ?_
        refine lv_topl (fun x6_10 e1 => ?_)
        have hf := lt1_n e1 hf
        refine lv_lstore (lv' := [(6, .long x6_10), (4, .long x4_9), (1, .int x1), (2, .int x2), (3, .int x3), (8, .int x8)]) hx hb dX12_green_81 hl (by decide) rfl (fun ls hl => ?_)
        obtain ⟨x8_11, e1⟩ : ∃ z : Int32, z = x8 + 1 := ⟨_, rfl⟩
        have hf := lt1_n e1 hf
        refine lv_iinc (v := x8_11) (lv' := [(8, .int x8_11), (6, .long x6_10), (4, .long x4_9), (1, .int x1), (2, .int x2), (3, .int x3)]) hx hb dX12_green_83 hl (k := 5) rfl (by rw [e1]; rfl) (by decide) rfl (fun ls hl => ?_)
        refine lv_goto (tgt := 59) hx hb dX12_green_86 (by decide) ?_
        exact hyL59 _ (Option.some.inj hf).symm H locs ls hS (lv_sub hl [3, 4, 5, 2, 1, 0] rfl)
    · have hf := ifp hf q4
      refine lv_lconst (v := 0) hx hb dX12_green_48 (by decide) ?_
      cases hf
      exact hret _ _ _ _ dX12_green_49 hS
  have hj39 : ∀ (x1 : Int32) (x2 : Int32) (x3 : Int32) (s0 : Nat) (mm : Mem) (H : Heap) (locs : List Loc) (ls : Array Slot), fX12_green_j39 (eS E) x1 x2 x3 s0 mm = some (r, mm1) → wS E s mm H locs → lv_has ls 9 [(1, .int x1), (2, .int x2), (3, .int x3)] → W p l e R s m args below meth c H locs 0 0 Q (F0 m 39 ls [.ref s0]) := by
    intro x1 x2 x3 s0 mm H locs ls hf hS hl
    unfold fX12_green_j39 at hf
    refine lv_iconst (v := 0) hx hb dX12_green_39 (by decide) ?_
    exact hj40 x1 x2 x3 s0 0 mm H locs ls hf hS hl
  intro H locs ls hS hl
  refine lv_aload_n hx hb dX12_green_0 rfl (lv_at hl 0 rfl) ?_
  refine lv_iconst (v := 0) hx hb dX12_green_1 (by decide) ?_
  obtain ⟨m12, h1, hf⟩ := bs hf
  refine am_pi X hS fp_X12_3 rfl h1 dX12_green_2 (fun H locs hS => ?_)
  refine lv_aload_n hx hb dX12_green_5 rfl (lv_at hl 0 rfl) ?_
  refine lv_iload_n hx hb dX12_green_6 rfl (lv_at hl 1 rfl) ?_
  refine lv_iconst (v := 0) hx hb dX12_green_7 (by decide) ?_
  refine lv_bipush (v := 12) hx hb dX12_green_8 (by decide) ?_
  obtain ⟨v13, h1, hf⟩ := bs hf
  refine am_endi hS (am_runS (As := [.int x1, .int 0, .int 12]) X (hml.trans hl.1.symm) hS (cX12_within_ok (l := l) (E := E) h1) ms_X12_368 ⟨Nat.le_trans (by decide) hR.1, Nat.le_trans (by decide) hR.2⟩ ⟨Nat.zero_le _, Nat.zero_le _⟩ rfl rfl (Nat.le_of_ble_eq_true rfl) dX12_green_10) (fun H locs hS => ?_)
  refine lv_if_eq (tgt := 39) hx hb dX12_green_13 (by decide) (fun q14 => ?_) (fun q14 => ?_)
  · have hf := ifp hf q14
    exact hj39 x1 x2 x3 x0 m12 H locs ls hf hS (lv_sub hl [1, 2, 3] rfl)
  · have hf := ifn hf q14
    refine lv_iload_n hx hb dX12_green_16 rfl (lv_at hl 2 rfl) ?_
    refine lv_iconst (v := 0) hx hb dX12_green_17 (by decide) ?_
    refine lv_bipush (v := 16) hx hb dX12_green_18 (by decide) ?_
    obtain ⟨v15, h1, hf⟩ := bs hf
    refine am_endi hS (am_runS (As := [.int x2, .int 0, .int 16]) X (hml.trans hl.1.symm) hS (cX12_within_ok (l := l) (E := E) h1) ms_X12_368 ⟨Nat.le_trans (by decide) hR.1, Nat.le_trans (by decide) hR.2⟩ ⟨Nat.zero_le _, Nat.zero_le _⟩ rfl rfl (Nat.le_of_ble_eq_true rfl) dX12_green_20) (fun H locs hS => ?_)
    refine lv_if_eq (tgt := 39) hx hb dX12_green_23 (by decide) (fun q16 => ?_) (fun q16 => ?_)
    · have hf := ifp hf q16
      exact hj39 x1 x2 x3 x0 m12 H locs ls hf hS (lv_sub hl [1, 2, 3] rfl)
    · have hf := ifn hf q16
      refine lv_iload_n hx hb dX12_green_26 rfl (lv_at hl 3 rfl) ?_
      refine lv_iconst (v := 0) hx hb dX12_green_27 (by decide) ?_
      refine lv_iconst (v := 1) hx hb dX12_green_28 (by decide) ?_
      obtain ⟨v17, h1, hf⟩ := bs hf
      refine am_endi hS (am_runS (As := [.int x3, .int 0, .int 1]) X (hml.trans hl.1.symm) hS (cX12_within_ok (l := l) (E := E) h1) ms_X12_368 ⟨Nat.le_trans (by decide) hR.1, Nat.le_trans (by decide) hR.2⟩ ⟨Nat.zero_le _, Nat.zero_le _⟩ rfl rfl (Nat.le_of_ble_eq_true rfl) dX12_green_29) (fun H locs hS => ?_)
      refine lv_if_eq (tgt := 39) hx hb dX12_green_32 (by decide) (fun q18 => ?_) (fun q18 => ?_)
      · have hf := ifp hf q18
        exact hj39 x1 x2 x3 x0 m12 H locs ls hf hS (lv_sub hl [1, 2, 3] rfl)
      · have hf := ifn hf q18
        refine lv_iconst (v := 1) hx hb dX12_green_35 (by decide) ?_
        refine lv_goto (tgt := 40) hx hb dX12_green_36 (by decide) ?_
        exact hj40 x1 x2 x3 x0 1 m12 H locs ls hf hS (lv_sub hl [1, 2, 3] rfl)
set_option maxRecDepth 100000 in
theorem cX12_green_ok {l : Launch} {E : Ev} {x0 : Nat} {x1 : Int32} {x2 : Int32} {x3 : Int32} {mm : Mem} {r : Int64} {mm1 : Mem} (hf : fX12_green (eS E) x0 x1 x2 x3 mm = some (r, mm1)) : CtL l yX12_green cX12_green 9 (some .long) 1 30 E [.ref x0, .int x1, .int x2, .int x3] mm r mm1 := by
  refine Met.ofW (cc := cX12_green) (maxL := 9) (ret := (some .long)) (by decide) rfl ?_
  intro p e s m args below meth c s₁ B hml hv
  obtain ⟨rfl, X, hS, hr, hlocks⟩ := am_in B hv
  refine am_entry (Nat.le_of_ble_eq_true rfl) (fun ls hl => ?_)
  exact wX12_green X hml ⟨Nat.le_refl _, Nat.le_refl _⟩ hf (fun pc H locs ls hd hS => am_rl X hS hr hd hlocks) _ _ ls hS hl
set_option maxHeartbeats 4000000 in
set_option maxRecDepth 100000 in
theorem wX12_hasBy {p : Program} {l : Launch} {e : Env} {R : Room} {s : State} {m : MethodId} {args : Array Value} {below : List Frame} {meth : Method} {c : Code} {Q : State → Prop} {E : Ev} (X : Cx p s m args c cX12_hasBy RX12 E) (hml : c.maxLocals = 4) (hR : 0 ≤ R.frames ∧ 0 ≤ R.locals) {x0 : Int32} {x1 : Int32} {x2 : Int32} {x3 : Int32} {mm : Mem} {r : Int32} (hf : fX12_hasBy x0 x1 x2 x3 = some r) (hret : ∀ (pc : Nat) (H : Heap) (locs : List Loc) (ls : Array Slot), narrow .int (.int r) = .int r → decode cX12_hasBy pc = .ok (.ireturn, 1) → wS E s mm H locs → W p l e R s m args below meth c H locs 0 0 Q (F0 m pc ls [.int r])) : ∀ (H : Heap) (locs : List Loc) (ls : Array Slot), wS E s mm H locs → lv_has ls 4 [(0, .int x0), (1, .int x1), (2, .int x2), (3, .int x3)] → W p l e R s m args below meth c H locs 0 0 Q (F0 m 0 ls []) := by
  have hx := X.1
  have hb := X.2.1
  unfold fX12_hasBy at hf
  have hj18 : ∀ (s0 : Int32) (H : Heap) (locs : List Loc) (ls : Array Slot), fX12_hasBy_j18 s0 = some r → wS E s mm H locs → lv_has ls 4 [] → W p l e R s m args below meth c H locs 0 0 Q (F0 m 18 ls [.int s0]) := by
    intro s0 H locs ls hf hS hl
    unfold fX12_hasBy_j18 at hf
    cases hf
    exact hret _ _ _ _ rfl dX12_hasBy_18 hS
  intro H locs ls hS hl
  refine lv_iload_n hx hb dX12_hasBy_0 rfl (lv_at hl 0 rfl) ?_
  refine lv_iload_n hx hb dX12_hasBy_1 rfl (lv_at hl 1 rfl) ?_
  refine lv_icmp_ne (tgt := 9) hx hb dX12_hasBy_2 (by decide) (fun q1 => ?_) (fun q1 => ?_)
  · have hf := ifn hf q1
    refine lv_iload_n hx hb dX12_hasBy_9 rfl (lv_at hl 0 rfl) ?_
    refine lv_if_ne (tgt := 17) hx hb dX12_hasBy_10 (by decide) (fun q2 => ?_) (fun q2 => ?_)
    · have hf := ifn hf q2
      refine lv_iload_n hx hb dX12_hasBy_17 rfl (lv_at hl 3 rfl) ?_
      exact hj18 x3 H locs ls hf hS (lv_sub hl [] rfl)
    · have hf := ifp hf q2
      refine lv_iload_n hx hb dX12_hasBy_13 rfl (lv_at hl 2 rfl) ?_
      refine lv_goto (tgt := 18) hx hb dX12_hasBy_14 (by decide) ?_
      exact hj18 x2 H locs ls hf hS (lv_sub hl [] rfl)
  · have hf := ifp hf q1
    refine lv_iconst (v := 0) hx hb dX12_hasBy_5 (by decide) ?_
    refine lv_goto (tgt := 18) hx hb dX12_hasBy_6 (by decide) ?_
    exact hj18 0 H locs ls hf hS (lv_sub hl [] rfl)
set_option maxRecDepth 100000 in
theorem cX12_hasBy_ok {l : Launch} {E : Ev} {x0 : Int32} {x1 : Int32} {x2 : Int32} {x3 : Int32} {mm : Mem} {r : Int32} (hf : fX12_hasBy x0 x1 x2 x3 = some r) : CtI l yX12_hasBy cX12_hasBy 4 (some .int) 0 0 E [.int x0, .int x1, .int x2, .int x3] mm r mm := by
  refine Met.ofW (cc := cX12_hasBy) (maxL := 4) (ret := (some .int)) (by decide) rfl ?_
  intro p e s m args below meth c s₁ B hml hv
  obtain ⟨rfl, X, hS, hr, hlocks⟩ := am_in B hv
  refine am_entry (Nat.le_of_ble_eq_true rfl) (fun ls hl => ?_)
  exact wX12_hasBy X hml ⟨Nat.le_refl _, Nat.le_refl _⟩ hf (fun pc H locs ls hn hd hS => am_ri X hS hr hn hd hlocks) _ _ ls hS hl
set_option maxHeartbeats 4000000 in
set_option maxRecDepth 100000 in
theorem wX12_lookers {p : Program} {l : Launch} {e : Env} {R : Room} {s : State} {m : MethodId} {args : Array Value} {below : List Frame} {meth : Method} {c : Code} {Q : State → Prop} {E : Ev} (X : Cx p s m args c cX12_lookers RX12 E) (hml : c.maxLocals = 9) (hR : 1 ≤ R.frames ∧ 23 ≤ R.locals) {x0 : Nat} {x1 : Int32} {x2 : Int32} {x3 : Int32} {mm : Mem} {r : Int32} {mm1 : Mem} (hf : fX12_lookers (eS E) x0 x1 x2 x3 mm = some (r, mm1)) (hret : ∀ (pc : Nat) (H : Heap) (locs : List Loc) (ls : Array Slot), narrow .int (.int r) = .int r → decode cX12_lookers pc = .ok (.ireturn, 1) → wS E s mm1 H locs → W p l e R s m args below meth c H locs 0 0 Q (F0 m pc ls [.int r])) : ∀ (H : Heap) (locs : List Loc) (ls : Array Slot), wS E s mm H locs → lv_has ls 9 [(0, .ref x0), (1, .int x1), (2, .int x2), (3, .int x3)] → W p l e R s m args below meth c H locs 0 0 Q (F0 m 0 ls []) := by
  have hx := X.1
  have hb := X.2.1
  unfold fX12_lookers at hf
  have hj216 : ∀ (s0 : Int32) (mm : Mem) (H : Heap) (locs : List Loc) (ls : Array Slot), fX12_lookers_j216 (eS E) s0 mm = some (r, mm1) → wS E s mm H locs → lv_has ls 9 [] → W p l e R s m args below meth c H locs 0 0 Q (F0 m 216 ls [.int s0]) := by
    intro s0 mm H locs ls hf hS hl
    unfold fX12_lookers_j216 at hf
    cases hf
    exact hret _ _ _ _ rfl dX12_lookers_216 hS
  have hj156 : ∀ (x1 : Int32) (x2 : Int32) (x3 : Int32) (x4 : Int32) (x5 : Int32) (mm : Mem) (H : Heap) (locs : List Loc) (ls : Array Slot), fX12_lookers_j156 (eS E) x1 x2 x3 x4 x5 mm = some (r, mm1) → wS E s mm H locs → lv_has ls 9 [(1, .int x1), (2, .int x2), (3, .int x3), (4, .int x4), (5, .int x5)] → W p l e R s m args below meth c H locs 0 0 Q (F0 m 156 ls []) := by
    intro x1 x2 x3 x4 x5 mm H locs ls hf hS hl
    unfold fX12_lookers_j156 at hf
    refine lv_iload_n hx hb dX12_lookers_156 rfl (lv_at hl 2 rfl) ?_
    refine lv_if_ne (tgt := 165) hx hb dX12_lookers_157 (by decide) (fun q1 => ?_) (fun q1 => ?_)
    · have hf := ifn hf q1
      refine lv_iload_n hx hb dX12_lookers_165 rfl (lv_at hl 2 rfl) ?_
      refine lv_iconst (v := 1) hx hb dX12_lookers_166 (by decide) ?_
      refine lv_icmp_ne (tgt := 175) hx hb dX12_lookers_167 (by decide) (fun q2 => ?_) (fun q2 => ?_)
      · have hf := ifn hf q2
        refine lv_iload hx hb dX12_lookers_175 (lv_at hl 4 rfl) ?_
        refine lv_iconst (v := (-1)) hx hb dX12_lookers_177 (by decide) ?_
        refine lv_icmp_ne (tgt := 185) hx hb dX12_lookers_178 (by decide) (fun q3 => ?_) (fun q3 => ?_)
        · have hf := ifn hf q3
          refine lv_iload hx hb dX12_lookers_185 (lv_at hl 4 rfl) ?_
          refine lv_bipush (v := 10) hx hb dX12_lookers_187 (by decide) ?_
          obtain ⟨v4, h1, hf⟩ := bs hf
          obtain ⟨h1, h2⟩ := dvI_n h1
          refine lv_idiv hx hb dX12_lookers_189 h1 ?_
          rw [h2]
          refine lv_iload hx hb dX12_lookers_190 (lv_at hl 4 rfl) ?_
          refine lv_bipush (v := 10) hx hb dX12_lookers_192 (by decide) ?_
          obtain ⟨v5, h1, hf⟩ := bs hf
          obtain ⟨h1, h2⟩ := rmI_n h1
          refine lv_irem hx hb dX12_lookers_194 h1 ?_
          rw [h2]
          refine lv_iload_n hx hb dX12_lookers_195 rfl (lv_at hl 0 rfl) ?_
          refine lv_iload_n hx hb dX12_lookers_196 rfl (lv_at hl 1 rfl) ?_
          obtain ⟨v6, h1, hf⟩ := bs hf
          refine am_endi hS (am_runS (As := [.int v4, .int v5, .int x1, .int x2]) X (hml.trans hl.1.symm) hS (cX12_hasBy_ok (l := l) (E := E) h1) ms_X12_435 ⟨Nat.le_trans (by decide) hR.1, Nat.le_trans (by decide) hR.2⟩ ⟨Nat.zero_le _, Nat.zero_le _⟩ rfl rfl (Nat.le_of_ble_eq_true rfl) dX12_lookers_197) (fun H locs hS => ?_)
          refine lv_iload hx hb dX12_lookers_200 (lv_at hl 4 rfl) ?_
          refine lv_bipush (v := 10) hx hb dX12_lookers_202 (by decide) ?_
          obtain ⟨v7, h1, hf⟩ := bs hf
          obtain ⟨h1, h2⟩ := rmI_n h1
          refine lv_irem hx hb dX12_lookers_204 h1 ?_
          rw [h2]
          refine lv_iload hx hb dX12_lookers_205 (lv_at hl 4 rfl) ?_
          refine lv_bipush (v := 10) hx hb dX12_lookers_207 (by decide) ?_
          obtain ⟨v8, h1, hf⟩ := bs hf
          obtain ⟨h1, h2⟩ := dvI_n h1
          refine lv_idiv hx hb dX12_lookers_209 h1 ?_
          rw [h2]
          refine lv_iload_n hx hb dX12_lookers_210 rfl (lv_at hl 0 rfl) ?_
          refine lv_iload_n hx hb dX12_lookers_211 rfl (lv_at hl 1 rfl) ?_
          obtain ⟨v9, h1, hf⟩ := bs hf
          refine am_endi hS (am_runS (As := [.int v7, .int v8, .int x1, .int x2]) X (hml.trans hl.1.symm) hS (cX12_hasBy_ok (l := l) (E := E) h1) ms_X12_435 ⟨Nat.le_trans (by decide) hR.1, Nat.le_trans (by decide) hR.2⟩ ⟨Nat.zero_le _, Nat.zero_le _⟩ rfl rfl (Nat.le_of_ble_eq_true rfl) dX12_lookers_212) (fun H locs hS => ?_)
          refine lv_iadd hx hb dX12_lookers_215 ?_
          exact hj216 (v6 + v9) mm H locs ls hf hS (lv_sub hl [] rfl)
        · have hf := ifp hf q3
          refine lv_iconst (v := 0) hx hb dX12_lookers_181 (by decide) ?_
          refine lv_goto (tgt := 216) hx hb dX12_lookers_182 (by decide) ?_
          exact hj216 0 mm H locs ls hf hS (lv_sub hl [] rfl)
      · have hf := ifp hf q2
        refine lv_iload hx hb dX12_lookers_170 (lv_at hl 4 rfl) ?_
        refine lv_goto (tgt := 216) hx hb dX12_lookers_172 (by decide) ?_
        exact hj216 x5 mm H locs ls hf hS (lv_sub hl [] rfl)
    · have hf := ifp hf q1
      refine lv_iload hx hb dX12_lookers_160 (lv_at hl 3 rfl) ?_
      refine lv_goto (tgt := 216) hx hb dX12_lookers_162 (by decide) ?_
      exact hj216 x4 mm H locs ls hf hS (lv_sub hl [] rfl)
  have hj40 : ∀ (x1 : Int32) (x2 : Int32) (x3 : Int32) (s0 : Nat) (s1 : Int32) (mm : Mem) (H : Heap) (locs : List Loc) (ls : Array Slot), fX12_lookers_j40 (eS E) x1 x2 x3 s0 s1 mm = some (r, mm1) → wS E s mm H locs → lv_has ls 9 [(1, .int x1), (2, .int x2), (3, .int x3)] → W p l e R s m args below meth c H locs 0 0 Q (F0 m 40 ls [.int s1, .ref s0]) := by
    intro x1 x2 x3 s0 s1 mm H locs ls hf hS hl
    unfold fX12_lookers_j40 at hf
    refine lv_iconst (v := 1) hx hb dX12_lookers_40 (by decide) ?_
    refine lv_iconst (v := 1) hx hb dX12_lookers_41 (by decide) ?_
    obtain ⟨u0, h0, hf⟩ := bs hf
    obtain ⟨_, hrc⟩ := isO_n h0
    obtain ⟨v10, m11, h1, hf⟩ := bs2 hf
    refine am_endi hS (am_runV (As := [.int s1, .int 1, .int 1]) X (hml.trans hl.1.symm) hS (cX12_may_ok (l := l) (E := E) h1) mv_X12_190 hrc rfl ⟨Nat.le_trans (by decide) hR.1, Nat.le_trans (by decide) hR.2⟩ ⟨Nat.zero_le _, Nat.zero_le _⟩ rfl rfl (Nat.le_of_ble_eq_true rfl) dX12_lookers_42) (fun H locs hS => ?_)
    refine lv_if_ne (tgt := 50) hx hb dX12_lookers_45 (by decide) (fun q12 => ?_) (fun q12 => ?_)
    · have hf := ifn hf q12
      refine lv_iconst (v := 0) hx hb dX12_lookers_50 (by decide) ?_
      refine lv_topi (fun x4_13 e1 => ?_)
      have hf := lt1_n e1 hf
      refine lv_istore (lv' := [(4, .int x4_13), (1, .int x1), (2, .int x2), (3, .int x3)]) hx hb dX12_lookers_51 hl (by decide) rfl (fun ls hl => ?_)
      refine lv_iconst (v := (-1)) hx hb dX12_lookers_53 (by decide) ?_
      refine lv_topi (fun x5_14 e1 => ?_)
      have hf := lt1_n e1 hf
      refine lv_istore (lv' := [(5, .int x5_14), (4, .int x4_13), (1, .int x1), (2, .int x2), (3, .int x3)]) hx hb dX12_lookers_54 hl (by decide) rfl (fun ls hl => ?_)
      refine lv_iconst (v := 0) hx hb dX12_lookers_56 (by decide) ?_
      refine lv_topi (fun x6_15 e1 => ?_)
      have hf := lt1_n e1 hf
      refine lv_istore (lv' := [(6, .int x6_15), (5, .int x5_14), (4, .int x4_13), (1, .int x1), (2, .int x2), (3, .int x3)]) hx hb dX12_lookers_57 hl (by decide) rfl (fun ls hl => ?_)
      obtain ⟨ex59, hl59, hk59⟩ := bs hf
      refine loop_W (P := fun st => ∀ (H : Heap) (locs : List Loc) (ls : Array Slot), wS E s m11 H locs → lv_has ls 9 [(1, .int x1), (2, .int x2), (3, .int x3), (4, .int st.1), (5, .int st.2.1), (6, .int st.2.2)] → W p l e R s m args below meth c H locs 0 0 Q (F0 m 59 ls [])) (ex := ex59) ?_ FU _ hl59 H locs ls hS (lv_sub hl [3, 4, 5, 2, 1, 0] rfl)
      intro st y59 hf hyL59 hyR59 H locs ls hS hl
      obtain ⟨x4, x5, x6⟩ := st
      obtain ⟨mm, rfl⟩ : ∃ z, z = m11 := ⟨_, rfl⟩
      have hf : fX12_lookers_b59 (eS E) x1 x2 x3 x4 x5 x6 mm = some y59 := hf
      have hS : wS E s mm H locs := hS
      have hl : lv_has ls 9 [(1, .int x1), (2, .int x2), (3, .int x3), (4, .int x4), (5, .int x5), (6, .int x6)] := hl
      unfold fX12_lookers_b59 at hf
      have hj150 : ∀ (x4 : Int32) (x5 : Int32) (x6 : Int32) (H : Heap) (locs : List Loc) (ls : Array Slot), fX12_lookers_j150 (eS E) x1 x2 x3 x4 x5 x6 mm = some y59 → wS E s mm H locs → lv_has ls 9 [(1, .int x1), (2, .int x2), (3, .int x3), (4, .int x4), (5, .int x5), (6, .int x6)] → W p l e R s m args below meth c H locs 0 0 Q (F0 m 150 ls []) := by
        intro x4 x5 x6 H locs ls hf hS hl
        unfold fX12_lookers_j150 at hf
        obtain ⟨x6_16, e1⟩ : ∃ z : Int32, z = x6 + 1 := ⟨_, rfl⟩
        have hf := lt1_n e1 hf
        refine lv_iinc (v := x6_16) (lv' := [(6, .int x6_16), (1, .int x1), (2, .int x2), (3, .int x3), (4, .int x4), (5, .int x5)]) hx hb dX12_lookers_150 hl (k := 5) rfl (by rw [e1]; rfl) (by decide) rfl (fun ls hl => ?_)
        refine lv_goto (tgt := 59) hx hb dX12_lookers_153 (by decide) ?_
        exact hyL59 _ (Option.some.inj hf).symm H locs ls hS (lv_sub hl [1, 2, 3, 4, 5, 0] rfl)
      have hj148 : ∀ (x4 : Int32) (x6 : Int32) (s0 : Int32) (H : Heap) (locs : List Loc) (ls : Array Slot), fX12_lookers_j148 (eS E) x1 x2 x3 x4 x6 s0 mm = some y59 → wS E s mm H locs → lv_has ls 9 [(1, .int x1), (2, .int x2), (3, .int x3), (4, .int x4), (6, .int x6)] → W p l e R s m args below meth c H locs 0 0 Q (F0 m 148 ls [.int s0]) := by
        intro x4 x6 s0 H locs ls hf hS hl
        unfold fX12_lookers_j148 at hf
        refine lv_topi (fun x5_17 e1 => ?_)
        have hf := lt1_n e1 hf
        refine lv_istore (lv' := [(5, .int x5_17), (1, .int x1), (2, .int x2), (3, .int x3), (4, .int x4), (6, .int x6)]) hx hb dX12_lookers_148 hl (by decide) rfl (fun ls hl => ?_)
        exact hj150 x4 x5_17 x6 H locs ls hf hS (lv_sub hl [1, 2, 3, 4, 0, 5] rfl)
      refine lv_iload hx hb dX12_lookers_59 (lv_at hl 5 rfl) ?_
      refine lv_iconst (v := 4) hx hb dX12_lookers_61 (by decide) ?_
      refine lv_icmp_ge (tgt := 156) hx hb dX12_lookers_62 (by decide) (fun q18 => ?_) (fun q18 => ?_)
      · have hf := ifp hf q18
        obtain rfl : (x4, x5) = ex59 := hyR59 _ (Option.some.inj hf).symm
        exact hj156 x1 x2 x3 x4 x5 mm H locs ls hk59 hS (lv_sub hl [0, 1, 2, 3, 4] rfl)
      · have hf := ifn hf q18
        refine lv_iload hx hb dX12_lookers_65 (lv_at hl 5 rfl) ?_
        refine lv_iconst (v := 2) hx hb dX12_lookers_67 (by decide) ?_
        obtain ⟨v19, h1, hf⟩ := bs hf
        obtain ⟨h1, h2⟩ := dvI_n h1
        refine lv_idiv hx hb dX12_lookers_68 h1 ?_
        rw [h2]
        refine lv_topi (fun x7_20 e1 => ?_)
        have hf := lt1_n e1 hf
        refine lv_istore (lv' := [(7, .int x7_20), (1, .int x1), (2, .int x2), (3, .int x3), (4, .int x4), (5, .int x5), (6, .int x6)]) hx hb dX12_lookers_69 hl (by decide) rfl (fun ls hl => ?_)
        refine lv_iload hx hb dX12_lookers_71 (lv_at hl 6 rfl) ?_
        refine lv_iconst (v := 2) hx hb dX12_lookers_73 (by decide) ?_
        obtain ⟨v21, h1, hf⟩ := bs hf
        obtain ⟨h1, h2⟩ := rmI_n h1
        refine lv_irem hx hb dX12_lookers_74 h1 ?_
        rw [h2]
        refine lv_topi (fun x8_22 e1 => ?_)
        have hf := lt1_n e1 hf
        refine lv_istore (lv' := [(8, .int x8_22), (7, .int x7_20), (1, .int x1), (2, .int x2), (3, .int x3), (4, .int x4), (5, .int x5), (6, .int x6)]) hx hb dX12_lookers_75 hl (by decide) rfl (fun ls hl => ?_)
        refine lv_iconst (v := 1) hx hb dX12_lookers_77 (by decide) ?_
        refine lv_iload hx hb dX12_lookers_78 (lv_at hl 1 rfl) ?_
        refine lv_isub hx hb dX12_lookers_80 ?_
        refine lv_iload hx hb dX12_lookers_81 (lv_at hl 0 rfl) ?_
        refine lv_iload_n hx hb dX12_lookers_83 rfl (lv_at hl 2 rfl) ?_
        refine lv_iload_n hx hb dX12_lookers_84 rfl (lv_at hl 3 rfl) ?_
        obtain ⟨v23, h1, hf⟩ := bs hf
        refine am_endi hS (am_runS (As := [.int (1 - x7_20), .int x8_22, .int x1, .int x2]) X (hml.trans hl.1.symm) hS (cX12_hasBy_ok (l := l) (E := E) h1) ms_X12_435 ⟨Nat.le_trans (by decide) hR.1, Nat.le_trans (by decide) hR.2⟩ ⟨Nat.zero_le _, Nat.zero_le _⟩ rfl rfl (Nat.le_of_ble_eq_true rfl) dX12_lookers_85) (fun H locs hS => ?_)
        refine lv_iload hx hb dX12_lookers_88 (lv_at hl 1 rfl) ?_
        refine lv_iload hx hb dX12_lookers_90 (lv_at hl 0 rfl) ?_
        refine lv_iload_n hx hb dX12_lookers_92 rfl (lv_at hl 2 rfl) ?_
        refine lv_iload_n hx hb dX12_lookers_93 rfl (lv_at hl 3 rfl) ?_
        obtain ⟨v24, h1, hf⟩ := bs hf
        refine am_endi hS (am_runS (As := [.int x7_20, .int x8_22, .int x1, .int x2]) X (hml.trans hl.1.symm) hS (cX12_hasBy_ok (l := l) (E := E) h1) ms_X12_435 ⟨Nat.le_trans (by decide) hR.1, Nat.le_trans (by decide) hR.2⟩ ⟨Nat.zero_le _, Nat.zero_le _⟩ rfl rfl (Nat.le_of_ble_eq_true rfl) dX12_lookers_94) (fun H locs hS => ?_)
        refine lv_icmp_gt (tgt := 150) hx hb dX12_lookers_97 (by decide) (fun q25 => ?_) (fun q25 => ?_)
        · have hf := ifp hf q25
          exact hj150 x4 x5 x6 H locs ls hf hS (lv_sub hl [2, 3, 4, 5, 6, 7] rfl)
        · have hf := ifn hf q25
          refine lv_iconst (v := 1) hx hb dX12_lookers_100 (by decide) ?_
          refine lv_iload hx hb dX12_lookers_101 (lv_at hl 0 rfl) ?_
          refine lv_isub hx hb dX12_lookers_103 ?_
          refine lv_iload hx hb dX12_lookers_104 (lv_at hl 1 rfl) ?_
          refine lv_iload_n hx hb dX12_lookers_106 rfl (lv_at hl 2 rfl) ?_
          refine lv_iload_n hx hb dX12_lookers_107 rfl (lv_at hl 3 rfl) ?_
          obtain ⟨v26, h1, hf⟩ := bs hf
          refine am_endi hS (am_runS (As := [.int (1 - x8_22), .int x7_20, .int x1, .int x2]) X (hml.trans hl.1.symm) hS (cX12_hasBy_ok (l := l) (E := E) h1) ms_X12_435 ⟨Nat.le_trans (by decide) hR.1, Nat.le_trans (by decide) hR.2⟩ ⟨Nat.zero_le _, Nat.zero_le _⟩ rfl rfl (Nat.le_of_ble_eq_true rfl) dX12_lookers_108) (fun H locs hS => ?_)
          refine lv_iload hx hb dX12_lookers_111 (lv_at hl 0 rfl) ?_
          refine lv_iload hx hb dX12_lookers_113 (lv_at hl 1 rfl) ?_
          refine lv_iload_n hx hb dX12_lookers_115 rfl (lv_at hl 2 rfl) ?_
          refine lv_iload_n hx hb dX12_lookers_116 rfl (lv_at hl 3 rfl) ?_
          obtain ⟨v27, h1, hf⟩ := bs hf
          refine am_endi hS (am_runS (As := [.int x8_22, .int x7_20, .int x1, .int x2]) X (hml.trans hl.1.symm) hS (cX12_hasBy_ok (l := l) (E := E) h1) ms_X12_435 ⟨Nat.le_trans (by decide) hR.1, Nat.le_trans (by decide) hR.2⟩ ⟨Nat.zero_le _, Nat.zero_le _⟩ rfl rfl (Nat.le_of_ble_eq_true rfl) dX12_lookers_117) (fun H locs hS => ?_)
          refine lv_icmp_le (tgt := 126) hx hb dX12_lookers_120 (by decide) (fun q28 => ?_) (fun q28 => ?_)
          · have hf := ifp hf q28
            obtain ⟨x4_29, e1⟩ : ∃ z : Int32, z = x4 + 1 := ⟨_, rfl⟩
            have hf := lt1_n e1 hf
            refine lv_iinc (v := x4_29) (lv' := [(4, .int x4_29), (8, .int x8_22), (7, .int x7_20), (1, .int x1), (2, .int x2), (3, .int x3), (5, .int x5), (6, .int x6)]) hx hb dX12_lookers_126 hl (k := 5) rfl (by rw [e1]; rfl) (by decide) rfl (fun ls hl => ?_)
            refine lv_iload hx hb dX12_lookers_129 (lv_at hl 6 rfl) ?_
            refine lv_iconst (v := (-1)) hx hb dX12_lookers_131 (by decide) ?_
            refine lv_icmp_ne (tgt := 146) hx hb dX12_lookers_132 (by decide) (fun q30 => ?_) (fun q30 => ?_)
            · have hf := ifn hf q30
              refine lv_iload hx hb dX12_lookers_146 (lv_at hl 6 rfl) ?_
              exact hj148 x4_29 x6 x5 H locs ls hf hS (lv_sub hl [3, 4, 5, 0, 7] rfl)
            · have hf := ifp hf q30
              refine lv_bipush (v := 10) hx hb dX12_lookers_135 (by decide) ?_
              refine lv_iload hx hb dX12_lookers_137 (lv_at hl 2 rfl) ?_
              refine lv_imul hx hb dX12_lookers_139 ?_
              refine lv_iload hx hb dX12_lookers_140 (lv_at hl 1 rfl) ?_
              refine lv_iadd hx hb dX12_lookers_142 ?_
              refine lv_goto (tgt := 148) hx hb dX12_lookers_143 (by decide) ?_
              exact hj148 x4_29 x6 ((10 * x7_20) + x8_22) H locs ls hf hS (lv_sub hl [3, 4, 5, 0, 7] rfl)
          · have hf := ifn hf q28
            refine lv_goto (tgt := 150) hx hb dX12_lookers_123 (by decide) ?_
            exact hj150 x4 x5 x6 H locs ls hf hS (lv_sub hl [2, 3, 4, 5, 6, 7] rfl)
    · have hf := ifp hf q12
      refine lv_iconst (v := 0) hx hb dX12_lookers_48 (by decide) ?_
      cases hf
      exact hret _ _ _ _ rfl dX12_lookers_49 hS
  have hj39 : ∀ (x1 : Int32) (x2 : Int32) (x3 : Int32) (s0 : Nat) (mm : Mem) (H : Heap) (locs : List Loc) (ls : Array Slot), fX12_lookers_j39 (eS E) x1 x2 x3 s0 mm = some (r, mm1) → wS E s mm H locs → lv_has ls 9 [(1, .int x1), (2, .int x2), (3, .int x3)] → W p l e R s m args below meth c H locs 0 0 Q (F0 m 39 ls [.ref s0]) := by
    intro x1 x2 x3 s0 mm H locs ls hf hS hl
    unfold fX12_lookers_j39 at hf
    refine lv_iconst (v := 0) hx hb dX12_lookers_39 (by decide) ?_
    exact hj40 x1 x2 x3 s0 0 mm H locs ls hf hS hl
  intro H locs ls hS hl
  refine lv_aload_n hx hb dX12_lookers_0 rfl (lv_at hl 0 rfl) ?_
  refine lv_iconst (v := 0) hx hb dX12_lookers_1 (by decide) ?_
  obtain ⟨m31, h1, hf⟩ := bs hf
  refine am_pi X hS fp_X12_3 rfl h1 dX12_lookers_2 (fun H locs hS => ?_)
  refine lv_aload_n hx hb dX12_lookers_5 rfl (lv_at hl 0 rfl) ?_
  refine lv_iload_n hx hb dX12_lookers_6 rfl (lv_at hl 1 rfl) ?_
  refine lv_iconst (v := 0) hx hb dX12_lookers_7 (by decide) ?_
  refine lv_bipush (v := 99) hx hb dX12_lookers_8 (by decide) ?_
  obtain ⟨v32, h1, hf⟩ := bs hf
  refine am_endi hS (am_runS (As := [.int x1, .int 0, .int 99]) X (hml.trans hl.1.symm) hS (cX12_within_ok (l := l) (E := E) h1) ms_X12_368 ⟨Nat.le_trans (by decide) hR.1, Nat.le_trans (by decide) hR.2⟩ ⟨Nat.zero_le _, Nat.zero_le _⟩ rfl rfl (Nat.le_of_ble_eq_true rfl) dX12_lookers_10) (fun H locs hS => ?_)
  refine lv_if_eq (tgt := 39) hx hb dX12_lookers_13 (by decide) (fun q33 => ?_) (fun q33 => ?_)
  · have hf := ifp hf q33
    exact hj39 x1 x2 x3 x0 m31 H locs ls hf hS (lv_sub hl [1, 2, 3] rfl)
  · have hf := ifn hf q33
    refine lv_iload_n hx hb dX12_lookers_16 rfl (lv_at hl 2 rfl) ?_
    refine lv_iconst (v := 0) hx hb dX12_lookers_17 (by decide) ?_
    refine lv_bipush (v := 99) hx hb dX12_lookers_18 (by decide) ?_
    obtain ⟨v34, h1, hf⟩ := bs hf
    refine am_endi hS (am_runS (As := [.int x2, .int 0, .int 99]) X (hml.trans hl.1.symm) hS (cX12_within_ok (l := l) (E := E) h1) ms_X12_368 ⟨Nat.le_trans (by decide) hR.1, Nat.le_trans (by decide) hR.2⟩ ⟨Nat.zero_le _, Nat.zero_le _⟩ rfl rfl (Nat.le_of_ble_eq_true rfl) dX12_lookers_20) (fun H locs hS => ?_)
    refine lv_if_eq (tgt := 39) hx hb dX12_lookers_23 (by decide) (fun q35 => ?_) (fun q35 => ?_)
    · have hf := ifp hf q35
      exact hj39 x1 x2 x3 x0 m31 H locs ls hf hS (lv_sub hl [1, 2, 3] rfl)
    · have hf := ifn hf q35
      refine lv_iload_n hx hb dX12_lookers_26 rfl (lv_at hl 3 rfl) ?_
      refine lv_iconst (v := 0) hx hb dX12_lookers_27 (by decide) ?_
      refine lv_iconst (v := 2) hx hb dX12_lookers_28 (by decide) ?_
      obtain ⟨v36, h1, hf⟩ := bs hf
      refine am_endi hS (am_runS (As := [.int x3, .int 0, .int 2]) X (hml.trans hl.1.symm) hS (cX12_within_ok (l := l) (E := E) h1) ms_X12_368 ⟨Nat.le_trans (by decide) hR.1, Nat.le_trans (by decide) hR.2⟩ ⟨Nat.zero_le _, Nat.zero_le _⟩ rfl rfl (Nat.le_of_ble_eq_true rfl) dX12_lookers_29) (fun H locs hS => ?_)
      refine lv_if_eq (tgt := 39) hx hb dX12_lookers_32 (by decide) (fun q37 => ?_) (fun q37 => ?_)
      · have hf := ifp hf q37
        exact hj39 x1 x2 x3 x0 m31 H locs ls hf hS (lv_sub hl [1, 2, 3] rfl)
      · have hf := ifn hf q37
        refine lv_iconst (v := 1) hx hb dX12_lookers_35 (by decide) ?_
        refine lv_goto (tgt := 40) hx hb dX12_lookers_36 (by decide) ?_
        exact hj40 x1 x2 x3 x0 1 m31 H locs ls hf hS (lv_sub hl [1, 2, 3] rfl)
set_option maxRecDepth 100000 in
theorem cX12_lookers_ok {l : Launch} {E : Ev} {x0 : Nat} {x1 : Int32} {x2 : Int32} {x3 : Int32} {mm : Mem} {r : Int32} {mm1 : Mem} (hf : fX12_lookers (eS E) x0 x1 x2 x3 mm = some (r, mm1)) : CtI l yX12_lookers cX12_lookers 9 (some .int) 1 23 E [.ref x0, .int x1, .int x2, .int x3] mm r mm1 := by
  refine Met.ofW (cc := cX12_lookers) (maxL := 9) (ret := (some .int)) (by decide) rfl ?_
  intro p e s m args below meth c s₁ B hml hv
  obtain ⟨rfl, X, hS, hr, hlocks⟩ := am_in B hv
  refine am_entry (Nat.le_of_ble_eq_true rfl) (fun ls hl => ?_)
  exact wX12_lookers X hml ⟨Nat.le_refl _, Nat.le_refl _⟩ hf (fun pc H locs ls hn hd hS => am_ri X hS hr hn hd hlocks) _ _ ls hS hl
set_option maxHeartbeats 4000000 in
set_option maxRecDepth 100000 in
theorem wX12_bounded {p : Program} {l : Launch} {e : Env} {R : Room} {s : State} {m : MethodId} {args : Array Value} {below : List Frame} {meth : Method} {c : Code} {Q : State → Prop} {E : Ev} (X : Cx p s m args c cX12_bounded RX12 E) (hml : c.maxLocals = 3) (hR : 2 ≤ R.frames ∧ 45 ≤ R.locals) {x0 : Nat} {x1 : Int32} {x2 : Int32} {mm : Mem} {r : Int32} (hf : fX12_bounded (eS E) x0 x1 x2 mm = some r) (hret : ∀ (pc : Nat) (H : Heap) (locs : List Loc) (ls : Array Slot), narrow .int (.int r) = .int r → decode cX12_bounded pc = .ok (.ireturn, 1) → wS E s mm H locs → W p l e R s m args below meth c H locs 0 0 Q (F0 m pc ls [.int r])) : ∀ (H : Heap) (locs : List Loc) (ls : Array Slot), wS E s mm H locs → lv_has ls 3 [(0, .ref x0), (1, .int x1), (2, .int x2)] → W p l e R s m args below meth c H locs 0 0 Q (F0 m 0 ls []) := by
  have hx := X.1
  have hb := X.2.1
  unfold fX12_bounded at hf
  have hj18 : ∀ (s0 : Int32) (H : Heap) (locs : List Loc) (ls : Array Slot), fX12_bounded_j18 (eS E) s0 mm = some r → wS E s mm H locs → lv_has ls 3 [] → W p l e R s m args below meth c H locs 0 0 Q (F0 m 18 ls [.int s0]) := by
    intro s0 H locs ls hf hS hl
    unfold fX12_bounded_j18 at hf
    cases hf
    exact hret _ _ _ _ rfl dX12_bounded_18 hS
  intro H locs ls hS hl
  refine lv_aload_n hx hb dX12_bounded_0 rfl (lv_at hl 0 rfl) ?_
  refine lv_iload_n hx hb dX12_bounded_1 rfl (lv_at hl 1 rfl) ?_
  obtain ⟨u0, h0, hf⟩ := bs hf
  obtain ⟨_, hrc⟩ := isO_n h0
  obtain ⟨v1, h1, hf⟩ := bs hf
  refine am_endi hS (am_runV (As := [.int x1]) X (hml.trans hl.1.symm) hS (cX12_withinOf_ok (l := l) (E := E) h1) mv_X12_328 hrc rfl ⟨Nat.le_trans (by decide) hR.1, Nat.le_trans (by decide) hR.2⟩ ⟨Nat.zero_le _, Nat.zero_le _⟩ rfl rfl (Nat.le_of_ble_eq_true rfl) dX12_bounded_2) (fun H locs hS => ?_)
  refine lv_iload_n hx hb dX12_bounded_5 rfl (lv_at hl 2 rfl) ?_
  refine lv_icmp_ge (tgt := 17) hx hb dX12_bounded_6 (by decide) (fun q2 => ?_) (fun q2 => ?_)
  · have hf := ifp hf q2
    refine lv_iload_n hx hb dX12_bounded_17 rfl (lv_at hl 2 rfl) ?_
    exact hj18 x2 H locs ls hf hS (lv_sub hl [] rfl)
  · have hf := ifn hf q2
    refine lv_aload_n hx hb dX12_bounded_9 rfl (lv_at hl 0 rfl) ?_
    refine lv_iload_n hx hb dX12_bounded_10 rfl (lv_at hl 1 rfl) ?_
    obtain ⟨u0, h0, hf⟩ := bs hf
    obtain ⟨_, hrc⟩ := isO_n h0
    obtain ⟨v3, h1, hf⟩ := bs hf
    refine am_endi hS (am_runV (As := [.int x1]) X (hml.trans hl.1.symm) hS (cX12_withinOf_ok (l := l) (E := E) h1) mv_X12_328 hrc rfl ⟨Nat.le_trans (by decide) hR.1, Nat.le_trans (by decide) hR.2⟩ ⟨Nat.zero_le _, Nat.zero_le _⟩ rfl rfl (Nat.le_of_ble_eq_true rfl) dX12_bounded_11) (fun H locs hS => ?_)
    refine lv_goto (tgt := 18) hx hb dX12_bounded_14 (by decide) ?_
    exact hj18 v3 H locs ls hf hS (lv_sub hl [] rfl)
set_option maxRecDepth 100000 in
theorem cX12_bounded_ok {l : Launch} {E : Ev} {x0 : Nat} {x1 : Int32} {x2 : Int32} {mm : Mem} {r : Int32} (hf : fX12_bounded (eS E) x0 x1 x2 mm = some r) : CtI l yX12_bounded cX12_bounded 3 (some .int) 2 45 E [.ref x0, .int x1, .int x2] mm r mm := by
  refine Met.ofW (cc := cX12_bounded) (maxL := 3) (ret := (some .int)) (by decide) rfl ?_
  intro p e s m args below meth c s₁ B hml hv
  obtain ⟨rfl, X, hS, hr, hlocks⟩ := am_in B hv
  refine am_entry (Nat.le_of_ble_eq_true rfl) (fun ls hl => ?_)
  exact wX12_bounded X hml ⟨Nat.le_refl _, Nat.le_refl _⟩ hf (fun pc H locs ls hn hd hS => am_ri X hS hr hn hd hlocks) _ _ ls hS hl
set_option maxHeartbeats 4000000 in
set_option maxRecDepth 100000 in
theorem wX12_lightBy {p : Program} {l : Launch} {e : Env} {R : Room} {s : State} {m : MethodId} {args : Array Value} {below : List Frame} {meth : Method} {c : Code} {Q : State → Prop} {E : Ev} (X : Cx p s m args c cX12_lightBy RX12 E) (hml : c.maxLocals = 5) (hR : 3 ≤ R.frames ∧ 67 ≤ R.locals) {x0 : Nat} {x1 : Int32} {x2 : Int32} {mm : Mem} {r : Int32} (hf : fX12_lightBy (eS E) x0 x1 x2 mm = some r) (hret : ∀ (pc : Nat) (H : Heap) (locs : List Loc) (ls : Array Slot), narrow .int (.int r) = .int r → decode cX12_lightBy pc = .ok (.ireturn, 1) → wS E s mm H locs → W p l e R s m args below meth c H locs 0 0 Q (F0 m pc ls [.int r])) : ∀ (H : Heap) (locs : List Loc) (ls : Array Slot), wS E s mm H locs → lv_has ls 5 [(0, .ref x0), (1, .int x1), (2, .int x2)] → W p l e R s m args below meth c H locs 0 0 Q (F0 m 0 ls []) := by
  have hx := X.1
  have hb := X.2.1
  unfold fX12_lightBy at hf
  have hj37 : ∀ (x3 : Int32) (H : Heap) (locs : List Loc) (ls : Array Slot), fX12_lightBy_j37 (eS E) x3 mm = some r → wS E s mm H locs → lv_has ls 5 [(3, .int x3)] → W p l e R s m args below meth c H locs 0 0 Q (F0 m 37 ls []) := by
    intro x3 H locs ls hf hS hl
    unfold fX12_lightBy_j37 at hf
    refine lv_iload_n hx hb dX12_lightBy_37 rfl (lv_at hl 0 rfl) ?_
    cases hf
    exact hret _ _ _ _ rfl dX12_lightBy_38 hS
  intro H locs ls hS hl
  refine lv_iconst (v := 0) hx hb dX12_lightBy_0 (by decide) ?_
  refine lv_topi (fun x3_1 e1 => ?_)
  have hf := lt1_n e1 hf
  refine lv_istore_n (lv' := [(3, .int x3_1), (0, .ref x0), (1, .int x1), (2, .int x2)]) hx hb dX12_lightBy_1 rfl hl (by decide) rfl (fun ls hl => ?_)
  refine lv_iconst (v := 0) hx hb dX12_lightBy_2 (by decide) ?_
  refine lv_topi (fun x4_2 e1 => ?_)
  have hf := lt1_n e1 hf
  refine lv_istore (lv' := [(4, .int x4_2), (3, .int x3_1), (0, .ref x0), (1, .int x1), (2, .int x2)]) hx hb dX12_lightBy_3 hl (by decide) rfl (fun ls hl => ?_)
  obtain ⟨ex5, hl5, hk5⟩ := bs hf
  refine loop_W (P := fun st => ∀ (H : Heap) (locs : List Loc) (ls : Array Slot), wS E s mm H locs → lv_has ls 5 [(0, .ref x0), (1, .int x1), (2, .int x2), (3, .int st.1), (4, .int st.2)] → W p l e R s m args below meth c H locs 0 0 Q (F0 m 5 ls [])) (ex := ex5) ?_ FU _ hl5 H locs ls hS (lv_sub hl [2, 3, 4, 1, 0] rfl)
  intro st y5 hf hyL5 hyR5 H locs ls hS hl
  obtain ⟨x3, x4⟩ := st
  have hf : fX12_lightBy_b5 (eS E) x0 x1 x2 x3 x4 mm = some y5 := hf
  have hS : wS E s mm H locs := hS
  have hl : lv_has ls 5 [(0, .ref x0), (1, .int x1), (2, .int x2), (3, .int x3), (4, .int x4)] := hl
  unfold fX12_lightBy_b5 at hf
  refine lv_iload hx hb dX12_lightBy_5 (lv_at hl 4 rfl) ?_
  refine lv_aload_n hx hb dX12_lightBy_7 rfl (lv_at hl 0 rfl) ?_
  obtain ⟨v3, h1, hf⟩ := bs hf
  refine am_gi X hS fl_X12_150 rfl h1 dX12_lightBy_8 ?_
  refine lv_icmp_ge (tgt := 37) hx hb dX12_lightBy_11 (by decide) (fun q4 => ?_) (fun q4 => ?_)
  · have hf := ifp hf q4
    obtain rfl : x3 = ex5 := hyR5 _ (Option.some.inj hf).symm
    exact hj37 x3 H locs ls hk5 hS (lv_sub hl [3] rfl)
  · have hf := ifn hf q4
    refine lv_iload_n hx hb dX12_lightBy_14 rfl (lv_at hl 3 rfl) ?_
    refine lv_iload_n hx hb dX12_lightBy_15 rfl (lv_at hl 1 rfl) ?_
    refine lv_iload hx hb dX12_lightBy_16 (lv_at hl 4 rfl) ?_
    refine lv_ishr hx hb dX12_lightBy_18 ?_
    refine lv_iconst (v := 1) hx hb dX12_lightBy_19 (by decide) ?_
    refine lv_iand hx hb dX12_lightBy_20 ?_
    refine lv_aload_n hx hb dX12_lightBy_21 rfl (lv_at hl 0 rfl) ?_
    refine lv_iload hx hb dX12_lightBy_22 (lv_at hl 4 rfl) ?_
    refine lv_iload_n hx hb dX12_lightBy_24 rfl (lv_at hl 2 rfl) ?_
    obtain ⟨u0, h0, hf⟩ := bs hf
    obtain ⟨_, hrc⟩ := isO_n h0
    obtain ⟨v5, h1, hf⟩ := bs hf
    refine am_endi hS (am_runV (As := [.int x4, .int x2]) X (hml.trans hl.1.symm) hS (cX12_bounded_ok (l := l) (E := E) h1) mv_X12_438 hrc rfl ⟨Nat.le_trans (by decide) hR.1, Nat.le_trans (by decide) hR.2⟩ ⟨Nat.zero_le _, Nat.zero_le _⟩ rfl rfl (Nat.le_of_ble_eq_true rfl) dX12_lightBy_25) (fun H locs hS => ?_)
    refine lv_imul hx hb dX12_lightBy_28 ?_
    refine lv_iadd hx hb dX12_lightBy_29 ?_
    refine lv_topi (fun x3_6 e1 => ?_)
    have hf := lt1_n e1 hf
    refine lv_istore_n (lv' := [(3, .int x3_6), (0, .ref x0), (1, .int x1), (2, .int x2), (4, .int x4)]) hx hb dX12_lightBy_30 rfl hl (by decide) rfl (fun ls hl => ?_)
    obtain ⟨x4_7, e1⟩ : ∃ z : Int32, z = x4 + 1 := ⟨_, rfl⟩
    have hf := lt1_n e1 hf
    refine lv_iinc (v := x4_7) (lv' := [(4, .int x4_7), (3, .int x3_6), (0, .ref x0), (1, .int x1), (2, .int x2)]) hx hb dX12_lightBy_31 hl (k := 4) rfl (by rw [e1]; rfl) (by decide) rfl (fun ls hl => ?_)
    refine lv_goto (tgt := 5) hx hb dX12_lightBy_34 (by decide) ?_
    exact hyL5 _ (Option.some.inj hf).symm H locs ls hS (lv_sub hl [2, 3, 4, 1, 0] rfl)
set_option maxRecDepth 100000 in
theorem cX12_lightBy_ok {l : Launch} {E : Ev} {x0 : Nat} {x1 : Int32} {x2 : Int32} {mm : Mem} {r : Int32} (hf : fX12_lightBy (eS E) x0 x1 x2 mm = some r) : CtI l yX12_lightBy cX12_lightBy 5 (some .int) 3 67 E [.ref x0, .int x1, .int x2] mm r mm := by
  refine Met.ofW (cc := cX12_lightBy) (maxL := 5) (ret := (some .int)) (by decide) rfl ?_
  intro p e s m args below meth c s₁ B hml hv
  obtain ⟨rfl, X, hS, hr, hlocks⟩ := am_in B hv
  refine am_entry (Nat.le_of_ble_eq_true rfl) (fun ls hl => ?_)
  exact wX12_lightBy X hml ⟨Nat.le_refl _, Nat.le_refl _⟩ hf (fun pc H locs ls hn hd hS => am_ri X hS hr hn hd hlocks) _ _ ls hS hl
set_option maxHeartbeats 4000000 in
set_option maxRecDepth 100000 in
theorem wX12_light {p : Program} {l : Launch} {e : Env} {R : Room} {s : State} {m : MethodId} {args : Array Value} {below : List Frame} {meth : Method} {c : Code} {Q : State → Prop} {E : Ev} (X : Cx p s m args c cX12_light RX12 E) (hml : c.maxLocals = 5) (hR : 4 ≤ R.frames ∧ 91 ≤ R.locals) {x0 : Nat} {x1 : Int32} {x2 : Int32} {x3 : Int32} {mm : Mem} {r : Int32} {mm1 : Mem} (hf : fX12_light (eS E) x0 x1 x2 x3 mm = some (r, mm1)) (hret : ∀ (pc : Nat) (H : Heap) (locs : List Loc) (ls : Array Slot), narrow .int (.int r) = .int r → decode cX12_light pc = .ok (.ireturn, 1) → wS E s mm1 H locs → W p l e R s m args below meth c H locs 0 0 Q (F0 m pc ls [.int r])) : ∀ (H : Heap) (locs : List Loc) (ls : Array Slot), wS E s mm H locs → lv_has ls 5 [(0, .ref x0), (1, .int x1), (2, .int x2), (3, .int x3)] → W p l e R s m args below meth c H locs 0 0 Q (F0 m 0 ls []) := by
  have hx := X.1
  have hb := X.2.1
  unfold fX12_light at hf
  have hj47 : ∀ (mm : Mem) (H : Heap) (locs : List Loc) (ls : Array Slot), fX12_light_j47 (eS E) mm = some (r, mm1) → wS E s mm H locs → lv_has ls 5 [] → W p l e R s m args below meth c H locs 0 0 Q (F0 m 47 ls []) := by
    intro mm H locs ls hf hS hl
    unfold fX12_light_j47 at hf
    refine lv_iconst (v := 0) hx hb dX12_light_47 (by decide) ?_
    cases hf
    exact hret _ _ _ _ rfl dX12_light_48 hS
  have hj94 : ∀ (s0 : Int32) (mm : Mem) (H : Heap) (locs : List Loc) (ls : Array Slot), fX12_light_j94 (eS E) s0 mm = some (r, mm1) → wS E s mm H locs → lv_has ls 5 [] → W p l e R s m args below meth c H locs 0 0 Q (F0 m 94 ls [.int s0]) := by
    intro s0 mm H locs ls hf hS hl
    unfold fX12_light_j94 at hf
    cases hf
    exact hret _ _ _ _ rfl dX12_light_94 hS
  have hj75 : ∀ (x0 : Nat) (x1 : Int32) (x2 : Int32) (x4 : Int32) (mm : Mem) (H : Heap) (locs : List Loc) (ls : Array Slot), fX12_light_j75 (eS E) x0 x1 x2 x4 mm = some (r, mm1) → wS E s mm H locs → lv_has ls 5 [(0, .ref x0), (1, .int x1), (2, .int x2), (4, .int x4)] → W p l e R s m args below meth c H locs 0 0 Q (F0 m 75 ls []) := by
    intro x0 x1 x2 x4 mm H locs ls hf hS hl
    unfold fX12_light_j75 at hf
    refine lv_iload_n hx hb dX12_light_75 rfl (lv_at hl 2 rfl) ?_
    refine lv_iload_n hx hb dX12_light_76 rfl (lv_at hl 1 rfl) ?_
    refine lv_ishr hx hb dX12_light_77 ?_
    refine lv_iconst (v := 1) hx hb dX12_light_78 (by decide) ?_
    refine lv_iand hx hb dX12_light_79 ?_
    refine lv_if_ne (tgt := 87) hx hb dX12_light_80 (by decide) (fun q1 => ?_) (fun q1 => ?_)
    · have hf := ifn hf q1
      refine lv_aload_n hx hb dX12_light_87 rfl (lv_at hl 0 rfl) ?_
      refine lv_iload_n hx hb dX12_light_88 rfl (lv_at hl 1 rfl) ?_
      refine lv_iload hx hb dX12_light_89 (lv_at hl 3 rfl) ?_
      obtain ⟨u0, h0, hf⟩ := bs hf
      obtain ⟨_, hrc⟩ := isO_n h0
      obtain ⟨v2, h1, hf⟩ := bs hf
      refine am_endi hS (am_runV (As := [.int x1, .int x4]) X (hml.trans hl.1.symm) hS (cX12_bounded_ok (l := l) (E := E) h1) mv_X12_438 hrc rfl ⟨Nat.le_trans (by decide) hR.1, Nat.le_trans (by decide) hR.2⟩ ⟨Nat.zero_le _, Nat.zero_le _⟩ rfl rfl (Nat.le_of_ble_eq_true rfl) dX12_light_91) (fun H locs hS => ?_)
      exact hj94 v2 mm H locs ls hf hS (lv_sub hl [] rfl)
    · have hf := ifp hf q1
      refine lv_iconst (v := 0) hx hb dX12_light_83 (by decide) ?_
      refine lv_goto (tgt := 94) hx hb dX12_light_84 (by decide) ?_
      exact hj94 0 mm H locs ls hf hS (lv_sub hl [] rfl)
  have hj39 : ∀ (x0 : Nat) (x1 : Int32) (x2 : Int32) (x3 : Int32) (s0 : Nat) (s1 : Int32) (mm : Mem) (H : Heap) (locs : List Loc) (ls : Array Slot), fX12_light_j39 (eS E) x0 x1 x2 x3 s0 s1 mm = some (r, mm1) → wS E s mm H locs → lv_has ls 5 [(0, .ref x0), (1, .int x1), (2, .int x2), (3, .int x3)] → W p l e R s m args below meth c H locs 0 0 Q (F0 m 39 ls [.int s1, .ref s0]) := by
    intro x0 x1 x2 x3 s0 s1 mm H locs ls hf hS hl
    unfold fX12_light_j39 at hf
    refine lv_iconst (v := 2) hx hb dX12_light_39 (by decide) ?_
    refine lv_iconst (v := 1) hx hb dX12_light_40 (by decide) ?_
    obtain ⟨u0, h0, hf⟩ := bs hf
    obtain ⟨_, hrc⟩ := isO_n h0
    obtain ⟨v3, m4, h1, hf⟩ := bs2 hf
    refine am_endi hS (am_runV (As := [.int s1, .int 2, .int 1]) X (hml.trans hl.1.symm) hS (cX12_may_ok (l := l) (E := E) h1) mv_X12_190 hrc rfl ⟨Nat.le_trans (by decide) hR.1, Nat.le_trans (by decide) hR.2⟩ ⟨Nat.zero_le _, Nat.zero_le _⟩ rfl rfl (Nat.le_of_ble_eq_true rfl) dX12_light_41) (fun H locs hS => ?_)
    refine lv_if_ne (tgt := 49) hx hb dX12_light_44 (by decide) (fun q5 => ?_) (fun q5 => ?_)
    · have hf := ifn hf q5
      refine lv_aload_n hx hb dX12_light_49 rfl (lv_at hl 0 rfl) ?_
      obtain ⟨u0, h0, hf⟩ := bs hf
      obtain ⟨_, hrc⟩ := isO_n h0
      obtain ⟨m6, h1, hf⟩ := bs hf
      refine am_endv hS (am_runV (As := []) X (hml.trans hl.1.symm) hS (cX12_take_ok (l := l) (E := E) h1) mv_X12_301 hrc rfl ⟨Nat.le_trans (by decide) hR.1, Nat.le_trans (by decide) hR.2⟩ ⟨Nat.zero_le _, Nat.zero_le _⟩ rfl rfl (Nat.le_of_ble_eq_true rfl) dX12_light_50) (fun H locs hS => ?_)
      refine lv_sipush (v := 2800) hx hb dX12_light_53 (by decide) ?_
      refine lv_topi (fun x4_7 e1 => ?_)
      have hf := lt1_n e1 hf
      refine lv_istore (lv' := [(4, .int x4_7), (0, .ref x0), (1, .int x1), (2, .int x2), (3, .int x3)]) hx hb dX12_light_56 hl (by decide) rfl (fun ls hl => ?_)
      obtain ⟨ex58, hl58, hk58⟩ := bs hf
      refine loop_W (P := fun st => ∀ (H : Heap) (locs : List Loc) (ls : Array Slot), wS E s m6 H locs → lv_has ls 5 [(0, .ref x0), (1, .int x1), (2, .int x2), (3, .int x3), (4, .int st)] → W p l e R s m args below meth c H locs 0 0 Q (F0 m 58 ls [])) (ex := ex58) ?_ FU _ hl58 H locs ls hS (lv_sub hl [1, 2, 3, 4, 0] rfl)
      intro st y58 hf hyL58 hyR58 H locs ls hS hl
      obtain ⟨x4, rfl⟩ : ∃ z, z = st := ⟨_, rfl⟩
      obtain ⟨mm, rfl⟩ : ∃ z, z = m6 := ⟨_, rfl⟩
      have hf : fX12_light_b58 (eS E) x0 x1 x2 x3 x4 mm = some y58 := hf
      have hS : wS E s mm H locs := hS
      have hl : lv_has ls 5 [(0, .ref x0), (1, .int x1), (2, .int x2), (3, .int x3), (4, .int x4)] := hl
      unfold fX12_light_b58 at hf
      refine lv_aload_n hx hb dX12_light_58 rfl (lv_at hl 0 rfl) ?_
      refine lv_iload_n hx hb dX12_light_59 rfl (lv_at hl 2 rfl) ?_
      refine lv_iload hx hb dX12_light_60 (lv_at hl 4 rfl) ?_
      obtain ⟨u0, h0, hf⟩ := bs hf
      obtain ⟨_, hrc⟩ := isO_n h0
      obtain ⟨v8, h1, hf⟩ := bs hf
      refine am_endi hS (am_runV (As := [.int x2, .int x4]) X (hml.trans hl.1.symm) hS (cX12_lightBy_ok (l := l) (E := E) h1) mv_X12_441 hrc rfl ⟨Nat.le_trans (by decide) hR.1, Nat.le_trans (by decide) hR.2⟩ ⟨Nat.zero_le _, Nat.zero_le _⟩ rfl rfl (Nat.le_of_ble_eq_true rfl) dX12_light_62) (fun H locs hS => ?_)
      refine lv_iload_n hx hb dX12_light_65 rfl (lv_at hl 3 rfl) ?_
      refine lv_icmp_le (tgt := 75) hx hb dX12_light_66 (by decide) (fun q9 => ?_) (fun q9 => ?_)
      · have hf := ifp hf q9
        obtain rfl : x4 = ex58 := hyR58 _ (Option.some.inj hf).symm
        exact hj75 x0 x1 x2 x4 mm H locs ls hk58 hS (lv_sub hl [0, 1, 2, 4] rfl)
      · have hf := ifn hf q9
        obtain ⟨x4_10, e1⟩ : ∃ z : Int32, z = x4 + (-1) := ⟨_, rfl⟩
        have hf := lt1_n e1 hf
        refine lv_iinc (v := x4_10) (lv' := [(4, .int x4_10), (0, .ref x0), (1, .int x1), (2, .int x2), (3, .int x3)]) hx hb dX12_light_69 hl (k := 4) rfl (by rw [e1]; rfl) (by decide) rfl (fun ls hl => ?_)
        refine lv_goto (tgt := 58) hx hb dX12_light_72 (by decide) ?_
        exact hyL58 _ (Option.some.inj hf).symm H locs ls hS (lv_sub hl [1, 2, 3, 4, 0] rfl)
    · have hf := ifp hf q5
      exact hj47 m4 H locs ls hf hS (lv_sub hl [] rfl)
  have hj38 : ∀ (x0 : Nat) (x1 : Int32) (x2 : Int32) (x3 : Int32) (s0 : Nat) (mm : Mem) (H : Heap) (locs : List Loc) (ls : Array Slot), fX12_light_j38 (eS E) x0 x1 x2 x3 s0 mm = some (r, mm1) → wS E s mm H locs → lv_has ls 5 [(0, .ref x0), (1, .int x1), (2, .int x2), (3, .int x3)] → W p l e R s m args below meth c H locs 0 0 Q (F0 m 38 ls [.ref s0]) := by
    intro x0 x1 x2 x3 s0 mm H locs ls hf hS hl
    unfold fX12_light_j38 at hf
    refine lv_iconst (v := 0) hx hb dX12_light_38 (by decide) ?_
    exact hj39 x0 x1 x2 x3 s0 0 mm H locs ls hf hS hl
  intro H locs ls hS hl
  refine lv_aload_n hx hb dX12_light_0 rfl (lv_at hl 0 rfl) ?_
  refine lv_iconst (v := 0) hx hb dX12_light_1 (by decide) ?_
  obtain ⟨m11, h1, hf⟩ := bs hf
  refine am_pi X hS fp_X12_3 rfl h1 dX12_light_2 (fun H locs hS => ?_)
  refine lv_aload_n hx hb dX12_light_5 rfl (lv_at hl 0 rfl) ?_
  refine lv_iload_n hx hb dX12_light_6 rfl (lv_at hl 1 rfl) ?_
  refine lv_iconst (v := 1) hx hb dX12_light_7 (by decide) ?_
  obtain ⟨u0, h0, hf⟩ := bs hf
  obtain ⟨_, hrc⟩ := isO_n h0
  obtain ⟨v12, m13, h1, hf⟩ := bs2 hf
  refine am_endi hS (am_runV (As := [.int x1, .int 1]) X (hml.trans hl.1.symm) hS (cX12_isFellow_ok (l := l) (E := E) h1) mv_X12_377 hrc rfl ⟨Nat.le_trans (by decide) hR.1, Nat.le_trans (by decide) hR.2⟩ ⟨Nat.zero_le _, Nat.zero_le _⟩ rfl rfl (Nat.le_of_ble_eq_true rfl) dX12_light_8) (fun H locs hS => ?_)
  refine lv_if_eq (tgt := 47) hx hb dX12_light_11 (by decide) (fun q14 => ?_) (fun q14 => ?_)
  · have hf := ifp hf q14
    exact hj47 m13 H locs ls hf hS (lv_sub hl [] rfl)
  · have hf := ifn hf q14
    refine lv_aload_n hx hb dX12_light_14 rfl (lv_at hl 0 rfl) ?_
    refine lv_aload_n hx hb dX12_light_15 rfl (lv_at hl 0 rfl) ?_
    refine lv_iload_n hx hb dX12_light_16 rfl (lv_at hl 2 rfl) ?_
    obtain ⟨u0, h0, hf⟩ := bs hf
    obtain ⟨_, hrc⟩ := isO_n h0
    obtain ⟨v15, h1, hf⟩ := bs hf
    refine am_endi hS (am_runV (As := [.int x2]) X (hml.trans hl.1.symm) hS (cX12_isSet_ok (l := l) (E := E) h1) mv_X12_395 hrc rfl ⟨Nat.le_trans (by decide) hR.1, Nat.le_trans (by decide) hR.2⟩ ⟨Nat.zero_le _, Nat.zero_le _⟩ rfl rfl (Nat.le_of_ble_eq_true rfl) dX12_light_17) (fun H locs hS => ?_)
    refine lv_if_eq (tgt := 38) hx hb dX12_light_20 (by decide) (fun q16 => ?_) (fun q16 => ?_)
    · have hf := ifp hf q16
      exact hj38 x0 x1 x2 x3 x0 m13 H locs ls hf hS hl
    · have hf := ifn hf q16
      refine lv_iload_n hx hb dX12_light_23 rfl (lv_at hl 3 rfl) ?_
      refine lv_iconst (v := 0) hx hb dX12_light_24 (by decide) ?_
      refine lv_sipush (v := 2800) hx hb dX12_light_25 (by decide) ?_
      obtain ⟨v17, h1, hf⟩ := bs hf
      refine am_endi hS (am_runS (As := [.int x3, .int 0, .int 2800]) X (hml.trans hl.1.symm) hS (cX12_within_ok (l := l) (E := E) h1) ms_X12_368 ⟨Nat.le_trans (by decide) hR.1, Nat.le_trans (by decide) hR.2⟩ ⟨Nat.zero_le _, Nat.zero_le _⟩ rfl rfl (Nat.le_of_ble_eq_true rfl) dX12_light_28) (fun H locs hS => ?_)
      refine lv_if_eq (tgt := 38) hx hb dX12_light_31 (by decide) (fun q18 => ?_) (fun q18 => ?_)
      · have hf := ifp hf q18
        exact hj38 x0 x1 x2 x3 x0 m13 H locs ls hf hS hl
      · have hf := ifn hf q18
        refine lv_iconst (v := 1) hx hb dX12_light_34 (by decide) ?_
        refine lv_goto (tgt := 39) hx hb dX12_light_35 (by decide) ?_
        exact hj39 x0 x1 x2 x3 x0 1 m13 H locs ls hf hS hl
set_option maxRecDepth 100000 in
theorem cX12_light_ok {l : Launch} {E : Ev} {x0 : Nat} {x1 : Int32} {x2 : Int32} {x3 : Int32} {mm : Mem} {r : Int32} {mm1 : Mem} (hf : fX12_light (eS E) x0 x1 x2 x3 mm = some (r, mm1)) : CtI l yX12_light cX12_light 5 (some .int) 4 91 E [.ref x0, .int x1, .int x2, .int x3] mm r mm1 := by
  refine Met.ofW (cc := cX12_light) (maxL := 5) (ret := (some .int)) (by decide) rfl ?_
  intro p e s m args below meth c s₁ B hml hv
  obtain ⟨rfl, X, hS, hr, hlocks⟩ := am_in B hv
  refine am_entry (Nat.le_of_ble_eq_true rfl) (fun ls hl => ?_)
  exact wX12_light X hml ⟨Nat.le_refl _, Nat.le_refl _⟩ hf (fun pc H locs ls hn hd hS => am_ri X hS hr hn hd hlocks) _ _ ls hS hl
set_option maxHeartbeats 4000000 in
set_option maxRecDepth 100000 in
theorem wX12_broadest {p : Program} {l : Launch} {e : Env} {R : Room} {s : State} {m : MethodId} {args : Array Value} {below : List Frame} {meth : Method} {c : Code} {Q : State → Prop} {E : Ev} (X : Cx p s m args c cX12_broadest RX12 E) (hml : c.maxLocals = 4) (hR : 2 ≤ R.frames ∧ 45 ≤ R.locals) {x0 : Nat} {x1 : Int32} {mm : Mem} {r : Int32} {mm1 : Mem} (hf : fX12_broadest (eS E) x0 x1 mm = some (r, mm1)) (hret : ∀ (pc : Nat) (H : Heap) (locs : List Loc) (ls : Array Slot), narrow .int (.int r) = .int r → decode cX12_broadest pc = .ok (.ireturn, 1) → wS E s mm1 H locs → W p l e R s m args below meth c H locs 0 0 Q (F0 m pc ls [.int r])) : ∀ (H : Heap) (locs : List Loc) (ls : Array Slot), wS E s mm H locs → lv_has ls 4 [(0, .ref x0), (1, .int x1)] → W p l e R s m args below meth c H locs 0 0 Q (F0 m 0 ls []) := by
  have hx := X.1
  have hb := X.2.1
  unfold fX12_broadest at hf
  have hj82 : ∀ (s0 : Int32) (mm : Mem) (H : Heap) (locs : List Loc) (ls : Array Slot), fX12_broadest_j82 (eS E) s0 mm = some (r, mm1) → wS E s mm H locs → lv_has ls 4 [] → W p l e R s m args below meth c H locs 0 0 Q (F0 m 82 ls [.int s0]) := by
    intro s0 mm H locs ls hf hS hl
    unfold fX12_broadest_j82 at hf
    cases hf
    exact hret _ _ _ _ rfl dX12_broadest_82 hS
  have hj73 : ∀ (x2 : Int32) (mm : Mem) (H : Heap) (locs : List Loc) (ls : Array Slot), fX12_broadest_j73 (eS E) x2 mm = some (r, mm1) → wS E s mm H locs → lv_has ls 4 [(2, .int x2)] → W p l e R s m args below meth c H locs 0 0 Q (F0 m 73 ls []) := by
    intro x2 mm H locs ls hf hS hl
    unfold fX12_broadest_j73 at hf
    refine lv_iload_n hx hb dX12_broadest_73 rfl (lv_at hl 0 rfl) ?_
    refine lv_goto (tgt := 82) hx hb dX12_broadest_74 (by decide) ?_
    exact hj82 x2 mm H locs ls hf hS (lv_sub hl [] rfl)
  have hj64 : ∀ (x0 : Nat) (x1 : Int32) (x2 : Int32) (mm : Mem) (H : Heap) (locs : List Loc) (ls : Array Slot), fX12_broadest_j64 (eS E) x0 x1 x2 mm = some (r, mm1) → wS E s mm H locs → lv_has ls 4 [(0, .ref x0), (1, .int x1), (2, .int x2)] → W p l e R s m args below meth c H locs 0 0 Q (F0 m 64 ls []) := by
    intro x0 x1 x2 mm H locs ls hf hS hl
    unfold fX12_broadest_j64 at hf
    refine lv_iload_n hx hb dX12_broadest_64 rfl (lv_at hl 1 rfl) ?_
    refine lv_if_eq (tgt := 73) hx hb dX12_broadest_65 (by decide) (fun q1 => ?_) (fun q1 => ?_)
    · have hf := ifp hf q1
      exact hj73 x2 mm H locs ls hf hS (lv_sub hl [2] rfl)
    · have hf := ifn hf q1
      refine lv_iload_n hx hb dX12_broadest_68 rfl (lv_at hl 2 rfl) ?_
      refine lv_iconst (v := (-1)) hx hb dX12_broadest_69 (by decide) ?_
      refine lv_icmp_ne (tgt := 77) hx hb dX12_broadest_70 (by decide) (fun q2 => ?_) (fun q2 => ?_)
      · have hf := ifn hf q2
        refine lv_aload_n hx hb dX12_broadest_77 rfl (lv_at hl 0 rfl) ?_
        refine lv_iload_n hx hb dX12_broadest_78 rfl (lv_at hl 2 rfl) ?_
        obtain ⟨u0, h0, hf⟩ := bs hf
        obtain ⟨_, hrc⟩ := isO_n h0
        obtain ⟨v3, h1, hf⟩ := bs hf
        refine am_endi hS (am_runV (As := [.int x2]) X (hml.trans hl.1.symm) hS (cX12_withinOf_ok (l := l) (E := E) h1) mv_X12_328 hrc rfl ⟨Nat.le_trans (by decide) hR.1, Nat.le_trans (by decide) hR.2⟩ ⟨Nat.zero_le _, Nat.zero_le _⟩ rfl rfl (Nat.le_of_ble_eq_true rfl) dX12_broadest_79) (fun H locs hS => ?_)
        exact hj82 v3 mm H locs ls hf hS (lv_sub hl [] rfl)
      · have hf := ifp hf q2
        exact hj73 x2 mm H locs ls hf hS (lv_sub hl [2] rfl)
  intro H locs ls hS hl
  refine lv_aload_n hx hb dX12_broadest_0 rfl (lv_at hl 0 rfl) ?_
  refine lv_iconst (v := 0) hx hb dX12_broadest_1 (by decide) ?_
  obtain ⟨m4, h1, hf⟩ := bs hf
  refine am_pi X hS fp_X12_3 rfl h1 dX12_broadest_2 (fun H locs hS => ?_)
  refine lv_aload_n hx hb dX12_broadest_5 rfl (lv_at hl 0 rfl) ?_
  refine lv_iload_n hx hb dX12_broadest_6 rfl (lv_at hl 1 rfl) ?_
  refine lv_iconst (v := 0) hx hb dX12_broadest_7 (by decide) ?_
  refine lv_iconst (v := 1) hx hb dX12_broadest_8 (by decide) ?_
  obtain ⟨v5, h1, hf⟩ := bs hf
  refine am_endi hS (am_runS (As := [.int x1, .int 0, .int 1]) X (hml.trans hl.1.symm) hS (cX12_within_ok (l := l) (E := E) h1) ms_X12_368 ⟨Nat.le_trans (by decide) hR.1, Nat.le_trans (by decide) hR.2⟩ ⟨Nat.zero_le _, Nat.zero_le _⟩ rfl rfl (Nat.le_of_ble_eq_true rfl) dX12_broadest_9) (fun H locs hS => ?_)
  refine lv_iconst (v := 1) hx hb dX12_broadest_12 (by decide) ?_
  refine lv_iconst (v := 1) hx hb dX12_broadest_13 (by decide) ?_
  obtain ⟨u0, h0, hf⟩ := bs hf
  obtain ⟨_, hrc⟩ := isO_n h0
  obtain ⟨v6, m7, h1, hf⟩ := bs2 hf
  refine am_endi hS (am_runV (As := [.int v5, .int 1, .int 1]) X (hml.trans hl.1.symm) hS (cX12_may_ok (l := l) (E := E) h1) mv_X12_190 hrc rfl ⟨Nat.le_trans (by decide) hR.1, Nat.le_trans (by decide) hR.2⟩ ⟨Nat.zero_le _, Nat.zero_le _⟩ rfl rfl (Nat.le_of_ble_eq_true rfl) dX12_broadest_14) (fun H locs hS => ?_)
  refine lv_if_ne (tgt := 22) hx hb dX12_broadest_17 (by decide) (fun q8 => ?_) (fun q8 => ?_)
  · have hf := ifn hf q8
    refine lv_aload_n hx hb dX12_broadest_22 rfl (lv_at hl 0 rfl) ?_
    obtain ⟨u0, h0, hf⟩ := bs hf
    obtain ⟨_, hrc⟩ := isO_n h0
    obtain ⟨m9, h1, hf⟩ := bs hf
    refine am_endv hS (am_runV (As := []) X (hml.trans hl.1.symm) hS (cX12_take_ok (l := l) (E := E) h1) mv_X12_301 hrc rfl ⟨Nat.le_trans (by decide) hR.1, Nat.le_trans (by decide) hR.2⟩ ⟨Nat.zero_le _, Nat.zero_le _⟩ rfl rfl (Nat.le_of_ble_eq_true rfl) dX12_broadest_23) (fun H locs hS => ?_)
    refine lv_iconst (v := (-1)) hx hb dX12_broadest_26 (by decide) ?_
    refine lv_topi (fun x2_10 e1 => ?_)
    have hf := lt1_n e1 hf
    refine lv_istore_n (lv' := [(2, .int x2_10), (0, .ref x0), (1, .int x1)]) hx hb dX12_broadest_27 rfl hl (by decide) rfl (fun ls hl => ?_)
    refine lv_iconst (v := 0) hx hb dX12_broadest_28 (by decide) ?_
    refine lv_topi (fun x3_11 e1 => ?_)
    have hf := lt1_n e1 hf
    refine lv_istore_n (lv' := [(3, .int x3_11), (2, .int x2_10), (0, .ref x0), (1, .int x1)]) hx hb dX12_broadest_29 rfl hl (by decide) rfl (fun ls hl => ?_)
    obtain ⟨ex30, hl30, hk30⟩ := bs hf
    refine loop_W (P := fun st => ∀ (H : Heap) (locs : List Loc) (ls : Array Slot), wS E s m9 H locs → lv_has ls 4 [(0, .ref x0), (1, .int x1), (2, .int st.1), (3, .int st.2)] → W p l e R s m args below meth c H locs 0 0 Q (F0 m 30 ls [])) (ex := ex30) ?_ FU _ hl30 H locs ls hS (lv_sub hl [2, 3, 1, 0] rfl)
    intro st y30 hf hyL30 hyR30 H locs ls hS hl
    obtain ⟨x2, x3⟩ := st
    obtain ⟨mm, rfl⟩ : ∃ z, z = m9 := ⟨_, rfl⟩
    have hf : fX12_broadest_b30 (eS E) x0 x1 x2 x3 mm = some y30 := hf
    have hS : wS E s mm H locs := hS
    have hl : lv_has ls 4 [(0, .ref x0), (1, .int x1), (2, .int x2), (3, .int x3)] := hl
    unfold fX12_broadest_b30 at hf
    have hj58 : ∀ (x2 : Int32) (x3 : Int32) (H : Heap) (locs : List Loc) (ls : Array Slot), fX12_broadest_j58 (eS E) x0 x1 x2 x3 mm = some y30 → wS E s mm H locs → lv_has ls 4 [(0, .ref x0), (1, .int x1), (2, .int x2), (3, .int x3)] → W p l e R s m args below meth c H locs 0 0 Q (F0 m 58 ls []) := by
      intro x2 x3 H locs ls hf hS hl
      unfold fX12_broadest_j58 at hf
      obtain ⟨x3_12, e1⟩ : ∃ z : Int32, z = x3 + 1 := ⟨_, rfl⟩
      have hf := lt1_n e1 hf
      refine lv_iinc (v := x3_12) (lv' := [(3, .int x3_12), (0, .ref x0), (1, .int x1), (2, .int x2)]) hx hb dX12_broadest_58 hl (k := 3) rfl (by rw [e1]; rfl) (by decide) rfl (fun ls hl => ?_)
      refine lv_goto (tgt := 30) hx hb dX12_broadest_61 (by decide) ?_
      exact hyL30 _ (Option.some.inj hf).symm H locs ls hS (lv_sub hl [1, 2, 3, 0] rfl)
    have hj56 : ∀ (x3 : Int32) (H : Heap) (locs : List Loc) (ls : Array Slot), fX12_broadest_j56 (eS E) x0 x1 x3 mm = some y30 → wS E s mm H locs → lv_has ls 4 [(0, .ref x0), (1, .int x1), (3, .int x3)] → W p l e R s m args below meth c H locs 0 0 Q (F0 m 56 ls []) := by
      intro x3 H locs ls hf hS hl
      unfold fX12_broadest_j56 at hf
      refine lv_iload_n hx hb dX12_broadest_56 rfl (lv_at hl 2 rfl) ?_
      refine lv_topi (fun x2_13 e1 => ?_)
      have hf := lt1_n e1 hf
      refine lv_istore_n (lv' := [(2, .int x2_13), (0, .ref x0), (1, .int x1), (3, .int x3)]) hx hb dX12_broadest_57 rfl hl (by decide) rfl (fun ls hl => ?_)
      exact hj58 x2_13 x3 H locs ls hf hS (lv_sub hl [1, 2, 0, 3] rfl)
    refine lv_iload_n hx hb dX12_broadest_30 rfl (lv_at hl 3 rfl) ?_
    refine lv_aload_n hx hb dX12_broadest_31 rfl (lv_at hl 0 rfl) ?_
    obtain ⟨v14, h1, hf⟩ := bs hf
    refine am_gi X hS fl_X12_150 rfl h1 dX12_broadest_32 ?_
    refine lv_icmp_ge (tgt := 64) hx hb dX12_broadest_35 (by decide) (fun q15 => ?_) (fun q15 => ?_)
    · have hf := ifp hf q15
      obtain rfl : x2 = ex30 := hyR30 _ (Option.some.inj hf).symm
      exact hj64 x0 x1 x2 mm H locs ls hk30 hS (lv_sub hl [0, 1, 2] rfl)
    · have hf := ifn hf q15
      refine lv_iload_n hx hb dX12_broadest_38 rfl (lv_at hl 2 rfl) ?_
      refine lv_iconst (v := (-1)) hx hb dX12_broadest_39 (by decide) ?_
      refine lv_icmp_eq (tgt := 56) hx hb dX12_broadest_40 (by decide) (fun q16 => ?_) (fun q16 => ?_)
      · have hf := ifp hf q16
        exact hj56 x3 H locs ls hf hS (lv_sub hl [0, 1, 3] rfl)
      · have hf := ifn hf q16
        refine lv_aload_n hx hb dX12_broadest_43 rfl (lv_at hl 0 rfl) ?_
        refine lv_iload_n hx hb dX12_broadest_44 rfl (lv_at hl 3 rfl) ?_
        obtain ⟨u0, h0, hf⟩ := bs hf
        obtain ⟨_, hrc⟩ := isO_n h0
        obtain ⟨v17, h1, hf⟩ := bs hf
        refine am_endi hS (am_runV (As := [.int x3]) X (hml.trans hl.1.symm) hS (cX12_withinOf_ok (l := l) (E := E) h1) mv_X12_328 hrc rfl ⟨Nat.le_trans (by decide) hR.1, Nat.le_trans (by decide) hR.2⟩ ⟨Nat.zero_le _, Nat.zero_le _⟩ rfl rfl (Nat.le_of_ble_eq_true rfl) dX12_broadest_45) (fun H locs hS => ?_)
        refine lv_aload_n hx hb dX12_broadest_48 rfl (lv_at hl 0 rfl) ?_
        refine lv_iload_n hx hb dX12_broadest_49 rfl (lv_at hl 2 rfl) ?_
        obtain ⟨u0, h0, hf⟩ := bs hf
        obtain ⟨_, hrc⟩ := isO_n h0
        obtain ⟨v18, h1, hf⟩ := bs hf
        refine am_endi hS (am_runV (As := [.int x2]) X (hml.trans hl.1.symm) hS (cX12_withinOf_ok (l := l) (E := E) h1) mv_X12_328 hrc rfl ⟨Nat.le_trans (by decide) hR.1, Nat.le_trans (by decide) hR.2⟩ ⟨Nat.zero_le _, Nat.zero_le _⟩ rfl rfl (Nat.le_of_ble_eq_true rfl) dX12_broadest_50) (fun H locs hS => ?_)
        refine lv_icmp_le (tgt := 58) hx hb dX12_broadest_53 (by decide) (fun q19 => ?_) (fun q19 => ?_)
        · have hf := ifp hf q19
          exact hj58 x2 x3 H locs ls hf hS hl
        · have hf := ifn hf q19
          exact hj56 x3 H locs ls hf hS (lv_sub hl [0, 1, 3] rfl)
  · have hf := ifp hf q8
    refine lv_iconst (v := 0) hx hb dX12_broadest_20 (by decide) ?_
    cases hf
    exact hret _ _ _ _ rfl dX12_broadest_21 hS
set_option maxRecDepth 100000 in
theorem cX12_broadest_ok {l : Launch} {E : Ev} {x0 : Nat} {x1 : Int32} {mm : Mem} {r : Int32} {mm1 : Mem} (hf : fX12_broadest (eS E) x0 x1 mm = some (r, mm1)) : CtI l yX12_broadest cX12_broadest 4 (some .int) 2 45 E [.ref x0, .int x1] mm r mm1 := by
  refine Met.ofW (cc := cX12_broadest) (maxL := 4) (ret := (some .int)) (by decide) rfl ?_
  intro p e s m args below meth c s₁ B hml hv
  obtain ⟨rfl, X, hS, hr, hlocks⟩ := am_in B hv
  refine am_entry (Nat.le_of_ble_eq_true rfl) (fun ls hl => ?_)
  exact wX12_broadest X hml ⟨Nat.le_refl _, Nat.le_refl _⟩ hf (fun pc H locs ls hn hd hS => am_ri X hS hr hn hd hlocks) _ _ ls hS hl
set_option maxHeartbeats 4000000 in
set_option maxRecDepth 100000 in
theorem wX12_strongest {p : Program} {l : Launch} {e : Env} {R : Room} {s : State} {m : MethodId} {args : Array Value} {below : List Frame} {meth : Method} {c : Code} {Q : State → Prop} {E : Ev} (X : Cx p s m args c cX12_strongest RX12 E) (hml : c.maxLocals = 5) (hR : 2 ≤ R.frames ∧ 45 ≤ R.locals) {x0 : Nat} {x1 : Int32} {x2 : Int32} {mm : Mem} {r : Int32} {mm1 : Mem} (hf : fX12_strongest (eS E) x0 x1 x2 mm = some (r, mm1)) (hret : ∀ (pc : Nat) (H : Heap) (locs : List Loc) (ls : Array Slot), narrow .int (.int r) = .int r → decode cX12_strongest pc = .ok (.ireturn, 1) → wS E s mm1 H locs → W p l e R s m args below meth c H locs 0 0 Q (F0 m pc ls [.int r])) : ∀ (H : Heap) (locs : List Loc) (ls : Array Slot), wS E s mm H locs → lv_has ls 5 [(0, .ref x0), (1, .int x1), (2, .int x2)] → W p l e R s m args below meth c H locs 0 0 Q (F0 m 0 ls []) := by
  have hx := X.1
  have hb := X.2.1
  unfold fX12_strongest at hf
  have hj29 : ∀ (mm : Mem) (H : Heap) (locs : List Loc) (ls : Array Slot), fX12_strongest_j29 (eS E) mm = some (r, mm1) → wS E s mm H locs → lv_has ls 5 [] → W p l e R s m args below meth c H locs 0 0 Q (F0 m 29 ls []) := by
    intro mm H locs ls hf hS hl
    unfold fX12_strongest_j29 at hf
    refine lv_iconst (v := 0) hx hb dX12_strongest_29 (by decide) ?_
    cases hf
    exact hret _ _ _ _ rfl dX12_strongest_30 hS
  have hj101 : ∀ (s0 : Int32) (mm : Mem) (H : Heap) (locs : List Loc) (ls : Array Slot), fX12_strongest_j101 (eS E) s0 mm = some (r, mm1) → wS E s mm H locs → lv_has ls 5 [] → W p l e R s m args below meth c H locs 0 0 Q (F0 m 101 ls [.int s0]) := by
    intro s0 mm H locs ls hf hS hl
    unfold fX12_strongest_j101 at hf
    cases hf
    exact hret _ _ _ _ rfl dX12_strongest_101 hS
  have hj82 : ∀ (x0 : Nat) (x1 : Int32) (x2 : Int32) (x3 : Int32) (mm : Mem) (H : Heap) (locs : List Loc) (ls : Array Slot), fX12_strongest_j82 (eS E) x0 x1 x2 x3 mm = some (r, mm1) → wS E s mm H locs → lv_has ls 5 [(0, .ref x0), (1, .int x1), (2, .int x2), (3, .int x3)] → W p l e R s m args below meth c H locs 0 0 Q (F0 m 82 ls []) := by
    intro x0 x1 x2 x3 mm H locs ls hf hS hl
    unfold fX12_strongest_j82 at hf
    refine lv_iload_n hx hb dX12_strongest_82 rfl (lv_at hl 2 rfl) ?_
    refine lv_if_ne (tgt := 90) hx hb dX12_strongest_83 (by decide) (fun q1 => ?_) (fun q1 => ?_)
    · have hf := ifn hf q1
      refine lv_aload_n hx hb dX12_strongest_90 rfl (lv_at hl 0 rfl) ?_
      obtain ⟨a2, h1, hf⟩ := bs hf
      refine am_gr X hS fl_X12_59 rfl h1 dX12_strongest_91 ?_
      refine lv_iconst (v := 0) hx hb dX12_strongest_94 (by decide) ?_
      refine lv_iload_n hx hb dX12_strongest_95 rfl (lv_at hl 1 rfl) ?_
      refine lv_iload_n hx hb dX12_strongest_96 rfl (lv_at hl 3 rfl) ?_
      obtain ⟨v3, h1, hf⟩ := bs hf
      refine am_endi hS (am_runS (As := [.int 0, .int x1, .int x3]) X (hml.trans hl.1.symm) hS (cX12_in_ok (l := l) (E := E) h1) ms_X12_319 ⟨Nat.le_trans (by decide) hR.1, Nat.le_trans (by decide) hR.2⟩ ⟨Nat.zero_le _, Nat.zero_le _⟩ rfl rfl (Nat.le_of_ble_eq_true rfl) dX12_strongest_97) (fun H locs hS => ?_)
      obtain ⟨v4, h1, hf⟩ := bs hf
      refine am_ald X hS h1 dX12_strongest_100 ?_
      exact hj101 v4 mm H locs ls hf hS (lv_sub hl [] rfl)
    · have hf := ifp hf q1
      refine lv_iload_n hx hb dX12_strongest_86 rfl (lv_at hl 3 rfl) ?_
      refine lv_goto (tgt := 101) hx hb dX12_strongest_87 (by decide) ?_
      exact hj101 x3 mm H locs ls hf hS (lv_sub hl [] rfl)
  intro H locs ls hS hl
  refine lv_aload_n hx hb dX12_strongest_0 rfl (lv_at hl 0 rfl) ?_
  refine lv_iconst (v := 0) hx hb dX12_strongest_1 (by decide) ?_
  obtain ⟨m5, h1, hf⟩ := bs hf
  refine am_pi X hS fp_X12_3 rfl h1 dX12_strongest_2 (fun H locs hS => ?_)
  refine lv_aload_n hx hb dX12_strongest_5 rfl (lv_at hl 0 rfl) ?_
  refine lv_iload_n hx hb dX12_strongest_6 rfl (lv_at hl 1 rfl) ?_
  refine lv_iconst (v := 1) hx hb dX12_strongest_7 (by decide) ?_
  obtain ⟨u0, h0, hf⟩ := bs hf
  obtain ⟨_, hrc⟩ := isO_n h0
  obtain ⟨v6, m7, h1, hf⟩ := bs2 hf
  refine am_endi hS (am_runV (As := [.int x1, .int 1]) X (hml.trans hl.1.symm) hS (cX12_isFellow_ok (l := l) (E := E) h1) mv_X12_377 hrc rfl ⟨Nat.le_trans (by decide) hR.1, Nat.le_trans (by decide) hR.2⟩ ⟨Nat.zero_le _, Nat.zero_le _⟩ rfl rfl (Nat.le_of_ble_eq_true rfl) dX12_strongest_8) (fun H locs hS => ?_)
  refine lv_if_eq (tgt := 29) hx hb dX12_strongest_11 (by decide) (fun q8 => ?_) (fun q8 => ?_)
  · have hf := ifp hf q8
    exact hj29 m7 H locs ls hf hS (lv_sub hl [] rfl)
  · have hf := ifn hf q8
    refine lv_aload_n hx hb dX12_strongest_14 rfl (lv_at hl 0 rfl) ?_
    refine lv_iload_n hx hb dX12_strongest_15 rfl (lv_at hl 2 rfl) ?_
    refine lv_iconst (v := 0) hx hb dX12_strongest_16 (by decide) ?_
    refine lv_iconst (v := 1) hx hb dX12_strongest_17 (by decide) ?_
    obtain ⟨v9, h1, hf⟩ := bs hf
    refine am_endi hS (am_runS (As := [.int x2, .int 0, .int 1]) X (hml.trans hl.1.symm) hS (cX12_within_ok (l := l) (E := E) h1) ms_X12_368 ⟨Nat.le_trans (by decide) hR.1, Nat.le_trans (by decide) hR.2⟩ ⟨Nat.zero_le _, Nat.zero_le _⟩ rfl rfl (Nat.le_of_ble_eq_true rfl) dX12_strongest_18) (fun H locs hS => ?_)
    refine lv_iconst (v := 2) hx hb dX12_strongest_21 (by decide) ?_
    refine lv_iconst (v := 1) hx hb dX12_strongest_22 (by decide) ?_
    obtain ⟨u0, h0, hf⟩ := bs hf
    obtain ⟨_, hrc⟩ := isO_n h0
    obtain ⟨v10, m11, h1, hf⟩ := bs2 hf
    refine am_endi hS (am_runV (As := [.int v9, .int 2, .int 1]) X (hml.trans hl.1.symm) hS (cX12_may_ok (l := l) (E := E) h1) mv_X12_190 hrc rfl ⟨Nat.le_trans (by decide) hR.1, Nat.le_trans (by decide) hR.2⟩ ⟨Nat.zero_le _, Nat.zero_le _⟩ rfl rfl (Nat.le_of_ble_eq_true rfl) dX12_strongest_23) (fun H locs hS => ?_)
    refine lv_if_ne (tgt := 31) hx hb dX12_strongest_26 (by decide) (fun q12 => ?_) (fun q12 => ?_)
    · have hf := ifn hf q12
      refine lv_iconst (v := 0) hx hb dX12_strongest_31 (by decide) ?_
      refine lv_topi (fun x3_13 e1 => ?_)
      have hf := lt1_n e1 hf
      refine lv_istore_n (lv' := [(3, .int x3_13), (0, .ref x0), (1, .int x1), (2, .int x2)]) hx hb dX12_strongest_32 rfl hl (by decide) rfl (fun ls hl => ?_)
      refine lv_iconst (v := 1) hx hb dX12_strongest_33 (by decide) ?_
      refine lv_topi (fun x4_14 e1 => ?_)
      have hf := lt1_n e1 hf
      refine lv_istore (lv' := [(4, .int x4_14), (3, .int x3_13), (0, .ref x0), (1, .int x1), (2, .int x2)]) hx hb dX12_strongest_34 hl (by decide) rfl (fun ls hl => ?_)
      obtain ⟨ex36, hl36, hk36⟩ := bs hf
      refine loop_W (P := fun st => ∀ (H : Heap) (locs : List Loc) (ls : Array Slot), wS E s m11 H locs → lv_has ls 5 [(0, .ref x0), (1, .int x1), (2, .int x2), (3, .int st.1), (4, .int st.2)] → W p l e R s m args below meth c H locs 0 0 Q (F0 m 36 ls [])) (ex := ex36) ?_ FU _ hl36 H locs ls hS (lv_sub hl [2, 3, 4, 1, 0] rfl)
      intro st y36 hf hyL36 hyR36 H locs ls hS hl
      obtain ⟨x3, x4⟩ := st
      obtain ⟨mm, rfl⟩ : ∃ z, z = m11 := ⟨_, rfl⟩
      have hf : fX12_strongest_b36 (eS E) x0 x1 x2 x3 x4 mm = some y36 := hf
      have hS : wS E s mm H locs := hS
      have hl : lv_has ls 5 [(0, .ref x0), (1, .int x1), (2, .int x2), (3, .int x3), (4, .int x4)] := hl
      unfold fX12_strongest_b36 at hf
      have hj75 : ∀ (x4 : Int32) (s0 : Int32) (H : Heap) (locs : List Loc) (ls : Array Slot), fX12_strongest_j75 (eS E) x0 x1 x2 x4 s0 mm = some y36 → wS E s mm H locs → lv_has ls 5 [(0, .ref x0), (1, .int x1), (2, .int x2), (4, .int x4)] → W p l e R s m args below meth c H locs 0 0 Q (F0 m 75 ls [.int s0]) := by
        intro x4 s0 H locs ls hf hS hl
        unfold fX12_strongest_j75 at hf
        refine lv_topi (fun x3_15 e1 => ?_)
        have hf := lt1_n e1 hf
        refine lv_istore_n (lv' := [(3, .int x3_15), (0, .ref x0), (1, .int x1), (2, .int x2), (4, .int x4)]) hx hb dX12_strongest_75 rfl hl (by decide) rfl (fun ls hl => ?_)
        obtain ⟨x4_16, e1⟩ : ∃ z : Int32, z = x4 + 1 := ⟨_, rfl⟩
        have hf := lt1_n e1 hf
        refine lv_iinc (v := x4_16) (lv' := [(4, .int x4_16), (3, .int x3_15), (0, .ref x0), (1, .int x1), (2, .int x2)]) hx hb dX12_strongest_76 hl (k := 4) rfl (by rw [e1]; rfl) (by decide) rfl (fun ls hl => ?_)
        refine lv_goto (tgt := 36) hx hb dX12_strongest_79 (by decide) ?_
        exact hyL36 _ (Option.some.inj hf).symm H locs ls hS (lv_sub hl [2, 3, 4, 1, 0] rfl)
      refine lv_iload hx hb dX12_strongest_36 (lv_at hl 4 rfl) ?_
      refine lv_bipush (v := 7) hx hb dX12_strongest_38 (by decide) ?_
      refine lv_icmp_ge (tgt := 82) hx hb dX12_strongest_40 (by decide) (fun q17 => ?_) (fun q17 => ?_)
      · have hf := ifp hf q17
        obtain rfl : x3 = ex36 := hyR36 _ (Option.some.inj hf).symm
        exact hj82 x0 x1 x2 x3 mm H locs ls hk36 hS (lv_sub hl [0, 1, 2, 3] rfl)
      · have hf := ifn hf q17
        refine lv_aload_n hx hb dX12_strongest_43 rfl (lv_at hl 0 rfl) ?_
        obtain ⟨a18, h1, hf⟩ := bs hf
        refine am_gr X hS fl_X12_59 rfl h1 dX12_strongest_44 ?_
        refine lv_iconst (v := 0) hx hb dX12_strongest_47 (by decide) ?_
        refine lv_iload_n hx hb dX12_strongest_48 rfl (lv_at hl 1 rfl) ?_
        refine lv_iload hx hb dX12_strongest_49 (lv_at hl 4 rfl) ?_
        obtain ⟨v19, h1, hf⟩ := bs hf
        refine am_endi hS (am_runS (As := [.int 0, .int x1, .int x4]) X (hml.trans hl.1.symm) hS (cX12_in_ok (l := l) (E := E) h1) ms_X12_319 ⟨Nat.le_trans (by decide) hR.1, Nat.le_trans (by decide) hR.2⟩ ⟨Nat.zero_le _, Nat.zero_le _⟩ rfl rfl (Nat.le_of_ble_eq_true rfl) dX12_strongest_51) (fun H locs hS => ?_)
        obtain ⟨v20, h1, hf⟩ := bs hf
        refine am_ald X hS h1 dX12_strongest_54 ?_
        refine lv_aload_n hx hb dX12_strongest_55 rfl (lv_at hl 0 rfl) ?_
        obtain ⟨a21, h1, hf⟩ := bs hf
        refine am_gr X hS fl_X12_59 rfl h1 dX12_strongest_56 ?_
        refine lv_iconst (v := 0) hx hb dX12_strongest_59 (by decide) ?_
        refine lv_iload_n hx hb dX12_strongest_60 rfl (lv_at hl 1 rfl) ?_
        refine lv_iload_n hx hb dX12_strongest_61 rfl (lv_at hl 3 rfl) ?_
        obtain ⟨v22, h1, hf⟩ := bs hf
        refine am_endi hS (am_runS (As := [.int 0, .int x1, .int x3]) X (hml.trans hl.1.symm) hS (cX12_in_ok (l := l) (E := E) h1) ms_X12_319 ⟨Nat.le_trans (by decide) hR.1, Nat.le_trans (by decide) hR.2⟩ ⟨Nat.zero_le _, Nat.zero_le _⟩ rfl rfl (Nat.le_of_ble_eq_true rfl) dX12_strongest_62) (fun H locs hS => ?_)
        obtain ⟨v23, h1, hf⟩ := bs hf
        refine am_ald X hS h1 dX12_strongest_65 ?_
        refine lv_icmp_le (tgt := 74) hx hb dX12_strongest_66 (by decide) (fun q24 => ?_) (fun q24 => ?_)
        · have hf := ifp hf q24
          refine lv_iload_n hx hb dX12_strongest_74 rfl (lv_at hl 3 rfl) ?_
          exact hj75 x4 x3 H locs ls hf hS (lv_sub hl [0, 1, 2, 4] rfl)
        · have hf := ifn hf q24
          refine lv_iload hx hb dX12_strongest_69 (lv_at hl 4 rfl) ?_
          refine lv_goto (tgt := 75) hx hb dX12_strongest_71 (by decide) ?_
          exact hj75 x4 x4 H locs ls hf hS (lv_sub hl [0, 1, 2, 4] rfl)
    · have hf := ifp hf q12
      exact hj29 m11 H locs ls hf hS (lv_sub hl [] rfl)
set_option maxRecDepth 100000 in
theorem cX12_strongest_ok {l : Launch} {E : Ev} {x0 : Nat} {x1 : Int32} {x2 : Int32} {mm : Mem} {r : Int32} {mm1 : Mem} (hf : fX12_strongest (eS E) x0 x1 x2 mm = some (r, mm1)) : CtI l yX12_strongest cX12_strongest 5 (some .int) 2 45 E [.ref x0, .int x1, .int x2] mm r mm1 := by
  refine Met.ofW (cc := cX12_strongest) (maxL := 5) (ret := (some .int)) (by decide) rfl ?_
  intro p e s m args below meth c s₁ B hml hv
  obtain ⟨rfl, X, hS, hr, hlocks⟩ := am_in B hv
  refine am_entry (Nat.le_of_ble_eq_true rfl) (fun ls hl => ?_)
  exact wX12_strongest X hml ⟨Nat.le_refl _, Nat.le_refl _⟩ hf (fun pc H locs ls hn hd hS => am_ri X hS hr hn hd hlocks) _ _ ls hS hl
set_option maxHeartbeats 4000000 in
set_option maxRecDepth 100000 in
theorem wX12_joins {p : Program} {l : Launch} {e : Env} {R : Room} {s : State} {m : MethodId} {args : Array Value} {below : List Frame} {meth : Method} {c : Code} {Q : State → Prop} {E : Ev} (X : Cx p s m args c cX12_joins RX12 E) (hml : c.maxLocals = 3) (hR : 6 ≤ R.frames ∧ 143 ≤ R.locals) {x0 : Nat} {x1 : Int32} {x2 : Int32} {mm : Mem} {r : Int32} {mm1 : Mem} (hf : fX12_joins (eS E) x0 x1 x2 mm = some (r, mm1)) (hret : ∀ (pc : Nat) (H : Heap) (locs : List Loc) (ls : Array Slot), narrow .int (.int r) = .int r → decode cX12_joins pc = .ok (.ireturn, 1) → wS E s mm1 H locs → W p l e R s m args below meth c H locs 0 0 Q (F0 m pc ls [.int r])) : ∀ (H : Heap) (locs : List Loc) (ls : Array Slot), wS E s mm H locs → lv_has ls 3 [(0, .ref x0), (1, .int x1), (2, .int x2)] → W p l e R s m args below meth c H locs 0 0 Q (F0 m 0 ls []) := by
  have hx := X.1
  have hb := X.2.1
  unfold fX12_joins at hf
  have hj23 : ∀ (mm : Mem) (H : Heap) (locs : List Loc) (ls : Array Slot), fX12_joins_j23 (eS E) mm = some (r, mm1) → wS E s mm H locs → lv_has ls 3 [] → W p l e R s m args below meth c H locs 0 0 Q (F0 m 23 ls []) := by
    intro mm H locs ls hf hS hl
    unfold fX12_joins_j23 at hf
    refine lv_iconst (v := 0) hx hb dX12_joins_23 (by decide) ?_
    cases hf
    exact hret _ _ _ _ rfl dX12_joins_24 hS
  intro H locs ls hS hl
  refine lv_aload_n hx hb dX12_joins_0 rfl (lv_at hl 0 rfl) ?_
  refine lv_iconst (v := 0) hx hb dX12_joins_1 (by decide) ?_
  obtain ⟨m1, h1, hf⟩ := bs hf
  refine am_pi X hS fp_X12_3 rfl h1 dX12_joins_2 (fun H locs hS => ?_)
  refine lv_aload_n hx hb dX12_joins_5 rfl (lv_at hl 0 rfl) ?_
  refine lv_iload_n hx hb dX12_joins_6 rfl (lv_at hl 1 rfl) ?_
  refine lv_iconst (v := 1) hx hb dX12_joins_7 (by decide) ?_
  obtain ⟨u0, h0, hf⟩ := bs hf
  obtain ⟨_, hrc⟩ := isO_n h0
  obtain ⟨v2, m3, h1, hf⟩ := bs2 hf
  refine am_endi hS (am_runV (As := [.int x1, .int 1]) X (hml.trans hl.1.symm) hS (cX12_isFellow_ok (l := l) (E := E) h1) mv_X12_377 hrc rfl ⟨Nat.le_trans (by decide) hR.1, Nat.le_trans (by decide) hR.2⟩ ⟨Nat.zero_le _, Nat.zero_le _⟩ rfl rfl (Nat.le_of_ble_eq_true rfl) dX12_joins_8) (fun H locs hS => ?_)
  refine lv_if_eq (tgt := 23) hx hb dX12_joins_11 (by decide) (fun q4 => ?_) (fun q4 => ?_)
  · have hf := ifp hf q4
    exact hj23 m3 H locs ls hf hS (lv_sub hl [] rfl)
  · have hf := ifn hf q4
    refine lv_aload_n hx hb dX12_joins_14 rfl (lv_at hl 0 rfl) ?_
    refine lv_iload_n hx hb dX12_joins_15 rfl (lv_at hl 2 rfl) ?_
    refine lv_iconst (v := 1) hx hb dX12_joins_16 (by decide) ?_
    obtain ⟨u0, h0, hf⟩ := bs hf
    obtain ⟨_, hrc⟩ := isO_n h0
    obtain ⟨v5, m6, h1, hf⟩ := bs2 hf
    refine am_endi hS (am_runV (As := [.int x2, .int 1]) X (hml.trans hl.1.symm) hS (cX12_isGlass_ok (l := l) (E := E) h1) mv_X12_389 hrc rfl ⟨Nat.le_trans (by decide) hR.1, Nat.le_trans (by decide) hR.2⟩ ⟨Nat.zero_le _, Nat.zero_le _⟩ rfl rfl (Nat.le_of_ble_eq_true rfl) dX12_joins_17) (fun H locs hS => ?_)
    refine lv_if_ne (tgt := 25) hx hb dX12_joins_20 (by decide) (fun q7 => ?_) (fun q7 => ?_)
    · have hf := ifn hf q7
      refine lv_aload_n hx hb dX12_joins_25 rfl (lv_at hl 0 rfl) ?_
      obtain ⟨u0, h0, hf⟩ := bs hf
      obtain ⟨_, hrc⟩ := isO_n h0
      obtain ⟨m8, h1, hf⟩ := bs hf
      refine am_endv hS (am_runV (As := []) X (hml.trans hl.1.symm) hS (cX12_take_ok (l := l) (E := E) h1) mv_X12_301 hrc rfl ⟨Nat.le_trans (by decide) hR.1, Nat.le_trans (by decide) hR.2⟩ ⟨Nat.zero_le _, Nat.zero_le _⟩ rfl rfl (Nat.le_of_ble_eq_true rfl) dX12_joins_26) (fun H locs hS => ?_)
      refine lv_aload_n hx hb dX12_joins_29 rfl (lv_at hl 0 rfl) ?_
      refine lv_iload_n hx hb dX12_joins_30 rfl (lv_at hl 1 rfl) ?_
      refine lv_iload_n hx hb dX12_joins_31 rfl (lv_at hl 2 rfl) ?_
      obtain ⟨u0, h0, hf⟩ := bs hf
      obtain ⟨_, hrc⟩ := isO_n h0
      obtain ⟨v9, m10, h1, hf⟩ := bs2 hf
      refine am_endi hS (am_runV (As := [.int x1, .int x2]) X (hml.trans hl.1.symm) hS (cX12_comesBack_ok (l := l) (E := E) h1) mv_X12_342 hrc rfl ⟨Nat.le_trans (by decide) hR.1, Nat.le_trans (by decide) hR.2⟩ ⟨Nat.zero_le _, Nat.zero_le _⟩ rfl rfl (Nat.le_of_ble_eq_true rfl) dX12_joins_32) (fun H locs hS => ?_)
      cases hf
      exact hret _ _ _ _ rfl dX12_joins_35 hS
    · have hf := ifp hf q7
      exact hj23 m6 H locs ls hf hS (lv_sub hl [] rfl)
set_option maxRecDepth 100000 in
theorem cX12_joins_ok {l : Launch} {E : Ev} {x0 : Nat} {x1 : Int32} {x2 : Int32} {mm : Mem} {r : Int32} {mm1 : Mem} (hf : fX12_joins (eS E) x0 x1 x2 mm = some (r, mm1)) : CtI l yX12_joins cX12_joins 3 (some .int) 6 143 E [.ref x0, .int x1, .int x2] mm r mm1 := by
  refine Met.ofW (cc := cX12_joins) (maxL := 3) (ret := (some .int)) (by decide) rfl ?_
  intro p e s m args below meth c s₁ B hml hv
  obtain ⟨rfl, X, hS, hr, hlocks⟩ := am_in B hv
  refine am_entry (Nat.le_of_ble_eq_true rfl) (fun ls hl => ?_)
  exact wX12_joins X hml ⟨Nat.le_refl _, Nat.le_refl _⟩ hf (fun pc H locs ls hn hd hS => am_ri X hS hr hn hd hlocks) _ _ ls hS hl
set_option maxHeartbeats 4000000 in
set_option maxRecDepth 100000 in
theorem wX12_areTogether {p : Program} {l : Launch} {e : Env} {R : Room} {s : State} {m : MethodId} {args : Array Value} {below : List Frame} {meth : Method} {c : Code} {Q : State → Prop} {E : Ev} (X : Cx p s m args c cX12_areTogether RX12 E) (hml : c.maxLocals = 4) (hR : 1 ≤ R.frames ∧ 22 ≤ R.locals) {x0 : Nat} {x1 : Int32} {mm : Mem} {r : Int32} (hf : fX12_areTogether (eS E) x0 x1 mm = some r) (hret : ∀ (pc : Nat) (H : Heap) (locs : List Loc) (ls : Array Slot), narrow .boolean (.int r) = .int r → decode cX12_areTogether pc = .ok (.ireturn, 1) → wS E s mm H locs → W p l e R s m args below meth c H locs 0 0 Q (F0 m pc ls [.int r])) : ∀ (H : Heap) (locs : List Loc) (ls : Array Slot), wS E s mm H locs → lv_has ls 4 [(0, .ref x0), (1, .int x1)] → W p l e R s m args below meth c H locs 0 0 Q (F0 m 0 ls []) := by
  have hx := X.1
  have hb := X.2.1
  unfold fX12_areTogether at hf
  have hj86 : ∀ (H : Heap) (locs : List Loc) (ls : Array Slot), fX12_areTogether_j86 (eS E) mm = some r → wS E s mm H locs → lv_has ls 4 [] → W p l e R s m args below meth c H locs 0 0 Q (F0 m 86 ls []) := by
    intro H locs ls hf hS hl
    unfold fX12_areTogether_j86 at hf
    refine lv_iconst (v := 0) hx hb dX12_areTogether_86 (by decide) ?_
    cases hf
    exact hret _ _ _ _ rfl dX12_areTogether_87 hS
  have hj72 : ∀ (H : Heap) (locs : List Loc) (ls : Array Slot), fX12_areTogether_j72 (eS E) mm = some r → wS E s mm H locs → lv_has ls 4 [] → W p l e R s m args below meth c H locs 0 0 Q (F0 m 72 ls []) := by
    intro H locs ls hf hS hl
    unfold fX12_areTogether_j72 at hf
    refine lv_iconst (v := 1) hx hb dX12_areTogether_72 (by decide) ?_
    cases hf
    exact hret _ _ _ _ rfl dX12_areTogether_73 hS
  intro H locs ls hS hl
  refine lv_iconst (v := 0) hx hb dX12_areTogether_0 (by decide) ?_
  refine lv_topi (fun x2_1 e1 => ?_)
  have hf := lt1_n e1 hf
  refine lv_istore_n (lv' := [(2, .int x2_1), (0, .ref x0), (1, .int x1)]) hx hb dX12_areTogether_1 rfl hl (by decide) rfl (fun ls hl => ?_)
  obtain ⟨ex2, hl2, hk2⟩ := bs hf
  refine loop_W (P := fun st => ∀ (H : Heap) (locs : List Loc) (ls : Array Slot), wS E s mm H locs → lv_has ls 4 [(0, .ref x0), (1, .int x1), (2, .int st)] → W p l e R s m args below meth c H locs 0 0 Q (F0 m 2 ls [])) (ex := ex2) ?_ FU _ hl2 H locs ls hS (lv_sub hl [1, 2, 0] rfl)
  intro st y2 hf hyL2 hyR2 H locs ls hS hl
  obtain ⟨x2, rfl⟩ : ∃ z, z = st := ⟨_, rfl⟩
  have hf : fX12_areTogether_b2 (eS E) x0 x1 x2 mm = some y2 := hf
  have hS : wS E s mm H locs := hS
  have hl : lv_has ls 4 [(0, .ref x0), (1, .int x1), (2, .int x2)] := hl
  unfold fX12_areTogether_b2 at hf
  have hj80 : ∀ (x2 : Int32) (H : Heap) (locs : List Loc) (ls : Array Slot), fX12_areTogether_j80 (eS E) x0 x1 x2 mm = some y2 → wS E s mm H locs → lv_has ls 4 [(0, .ref x0), (1, .int x1), (2, .int x2)] → W p l e R s m args below meth c H locs 0 0 Q (F0 m 80 ls []) := by
    intro x2 H locs ls hf hS hl
    unfold fX12_areTogether_j80 at hf
    obtain ⟨x2_2, e1⟩ : ∃ z : Int32, z = x2 + 1 := ⟨_, rfl⟩
    have hf := lt1_n e1 hf
    refine lv_iinc (v := x2_2) (lv' := [(2, .int x2_2), (0, .ref x0), (1, .int x1)]) hx hb dX12_areTogether_80 hl (k := 2) rfl (by rw [e1]; rfl) (by decide) rfl (fun ls hl => ?_)
    refine lv_goto (tgt := 2) hx hb dX12_areTogether_83 (by decide) ?_
    exact hyL2 _ (Option.some.inj hf).symm H locs ls hS (lv_sub hl [1, 2, 0] rfl)
  refine lv_iload_n hx hb dX12_areTogether_2 rfl (lv_at hl 2 rfl) ?_
  refine lv_bipush (v := 7) hx hb dX12_areTogether_3 (by decide) ?_
  refine lv_icmp_ge (tgt := 86) hx hb dX12_areTogether_5 (by decide) (fun q3 => ?_) (fun q3 => ?_)
  · have hf := ifp hf q3
    obtain rfl : Sum.inr (()) = ex2 := hyR2 _ (Option.some.inj hf).symm
    exact hj86  H locs ls hk2 hS (lv_sub hl [] rfl)
  · have hf := ifn hf q3
    refine lv_iconst (v := 0) hx hb dX12_areTogether_8 (by decide) ?_
    refine lv_topi (fun x3_4 e1 => ?_)
    have hf := lt1_n e1 hf
    refine lv_istore_n (lv' := [(3, .int x3_4), (0, .ref x0), (1, .int x1), (2, .int x2)]) hx hb dX12_areTogether_9 rfl hl (by decide) rfl (fun ls hl => ?_)
    obtain ⟨ex10, hl10, hk10⟩ := bs hf
    refine loop_W (P := fun st => ∀ (H : Heap) (locs : List Loc) (ls : Array Slot), wS E s mm H locs → lv_has ls 4 [(0, .ref x0), (1, .int x1), (2, .int x2), (3, .int st)] → W p l e R s m args below meth c H locs 0 0 Q (F0 m 10 ls [])) (ex := ex10) ?_ FU _ hl10 H locs ls hS (lv_sub hl [1, 2, 3, 0] rfl)
    intro st y10 hf hyL10 hyR10 H locs ls hS hl
    obtain ⟨x3, rfl⟩ : ∃ z, z = st := ⟨_, rfl⟩
    have hf : fX12_areTogether_b10 (eS E) x0 x1 x2 x3 mm = some y10 := hf
    have hS : wS E s mm H locs := hS
    have hl : lv_has ls 4 [(0, .ref x0), (1, .int x1), (2, .int x2), (3, .int x3)] := hl
    unfold fX12_areTogether_b10 at hf
    have hj74 : ∀ (x3 : Int32) (H : Heap) (locs : List Loc) (ls : Array Slot), fX12_areTogether_j74 (eS E) x0 x1 x2 x3 mm = some y10 → wS E s mm H locs → lv_has ls 4 [(0, .ref x0), (1, .int x1), (2, .int x2), (3, .int x3)] → W p l e R s m args below meth c H locs 0 0 Q (F0 m 74 ls []) := by
      intro x3 H locs ls hf hS hl
      unfold fX12_areTogether_j74 at hf
      obtain ⟨x3_5, e1⟩ : ∃ z : Int32, z = x3 + 1 := ⟨_, rfl⟩
      have hf := lt1_n e1 hf
      refine lv_iinc (v := x3_5) (lv' := [(3, .int x3_5), (0, .ref x0), (1, .int x1), (2, .int x2)]) hx hb dX12_areTogether_74 hl (k := 3) rfl (by rw [e1]; rfl) (by decide) rfl (fun ls hl => ?_)
      refine lv_goto (tgt := 10) hx hb dX12_areTogether_77 (by decide) ?_
      exact hyL10 _ (Option.some.inj hf).symm H locs ls hS (lv_sub hl [1, 2, 3, 0] rfl)
    refine lv_iload_n hx hb dX12_areTogether_10 rfl (lv_at hl 3 rfl) ?_
    refine lv_iload_n hx hb dX12_areTogether_11 rfl (lv_at hl 2 rfl) ?_
    refine lv_icmp_ge (tgt := 80) hx hb dX12_areTogether_12 (by decide) (fun q6 => ?_) (fun q6 => ?_)
    · have hf := ifp hf q6
      obtain rfl : Sum.inr (()) = ex10 := hyR10 _ (Option.some.inj hf).symm
      exact hj80 x2 H locs ls hk10 hS (lv_sub hl [0, 1, 2] rfl)
    · have hf := ifn hf q6
      refine lv_aload_n hx hb dX12_areTogether_15 rfl (lv_at hl 0 rfl) ?_
      obtain ⟨a7, h1, hf⟩ := bs hf
      refine am_gr X hS fl_X12_62 rfl h1 dX12_areTogether_16 ?_
      refine lv_bipush (v := 42) hx hb dX12_areTogether_19 (by decide) ?_
      refine lv_iload_n hx hb dX12_areTogether_21 rfl (lv_at hl 1 rfl) ?_
      refine lv_iload_n hx hb dX12_areTogether_22 rfl (lv_at hl 2 rfl) ?_
      obtain ⟨v8, h1, hf⟩ := bs hf
      refine am_endi hS (am_runS (As := [.int 42, .int x1, .int x2]) X (hml.trans hl.1.symm) hS (cX12_in_ok (l := l) (E := E) h1) ms_X12_319 ⟨Nat.le_trans (by decide) hR.1, Nat.le_trans (by decide) hR.2⟩ ⟨Nat.zero_le _, Nat.zero_le _⟩ rfl rfl (Nat.le_of_ble_eq_true rfl) dX12_areTogether_23) (fun H locs hS => ?_)
      obtain ⟨v9, h1, hf⟩ := bs hf
      refine am_ald X hS h1 dX12_areTogether_26 ?_
      refine lv_if_le (tgt := 74) hx hb dX12_areTogether_27 (by decide) (fun q10 => ?_) (fun q10 => ?_)
      · have hf := ifp hf q10
        exact hj74 x3 H locs ls hf hS hl
      · have hf := ifn hf q10
        refine lv_aload_n hx hb dX12_areTogether_30 rfl (lv_at hl 0 rfl) ?_
        obtain ⟨a11, h1, hf⟩ := bs hf
        refine am_gr X hS fl_X12_62 rfl h1 dX12_areTogether_31 ?_
        refine lv_bipush (v := 42) hx hb dX12_areTogether_34 (by decide) ?_
        refine lv_iload_n hx hb dX12_areTogether_36 rfl (lv_at hl 1 rfl) ?_
        refine lv_iload_n hx hb dX12_areTogether_37 rfl (lv_at hl 3 rfl) ?_
        obtain ⟨v12, h1, hf⟩ := bs hf
        refine am_endi hS (am_runS (As := [.int 42, .int x1, .int x3]) X (hml.trans hl.1.symm) hS (cX12_in_ok (l := l) (E := E) h1) ms_X12_319 ⟨Nat.le_trans (by decide) hR.1, Nat.le_trans (by decide) hR.2⟩ ⟨Nat.zero_le _, Nat.zero_le _⟩ rfl rfl (Nat.le_of_ble_eq_true rfl) dX12_areTogether_38) (fun H locs hS => ?_)
        obtain ⟨v13, h1, hf⟩ := bs hf
        refine am_ald X hS h1 dX12_areTogether_41 ?_
        refine lv_if_le (tgt := 74) hx hb dX12_areTogether_42 (by decide) (fun q14 => ?_) (fun q14 => ?_)
        · have hf := ifp hf q14
          exact hj74 x3 H locs ls hf hS hl
        · have hf := ifn hf q14
          refine lv_aload_n hx hb dX12_areTogether_45 rfl (lv_at hl 0 rfl) ?_
          obtain ⟨a15, h1, hf⟩ := bs hf
          refine am_gr X hS fl_X12_62 rfl h1 dX12_areTogether_46 ?_
          refine lv_bipush (v := 84) hx hb dX12_areTogether_49 (by decide) ?_
          refine lv_iload_n hx hb dX12_areTogether_51 rfl (lv_at hl 1 rfl) ?_
          refine lv_iload_n hx hb dX12_areTogether_52 rfl (lv_at hl 2 rfl) ?_
          obtain ⟨v16, h1, hf⟩ := bs hf
          refine am_endi hS (am_runS (As := [.int 84, .int x1, .int x2]) X (hml.trans hl.1.symm) hS (cX12_in_ok (l := l) (E := E) h1) ms_X12_319 ⟨Nat.le_trans (by decide) hR.1, Nat.le_trans (by decide) hR.2⟩ ⟨Nat.zero_le _, Nat.zero_le _⟩ rfl rfl (Nat.le_of_ble_eq_true rfl) dX12_areTogether_53) (fun H locs hS => ?_)
          obtain ⟨v17, h1, hf⟩ := bs hf
          refine am_ald X hS h1 dX12_areTogether_56 ?_
          refine lv_aload_n hx hb dX12_areTogether_57 rfl (lv_at hl 0 rfl) ?_
          obtain ⟨a18, h1, hf⟩ := bs hf
          refine am_gr X hS fl_X12_62 rfl h1 dX12_areTogether_58 ?_
          refine lv_bipush (v := 84) hx hb dX12_areTogether_61 (by decide) ?_
          refine lv_iload_n hx hb dX12_areTogether_63 rfl (lv_at hl 1 rfl) ?_
          refine lv_iload_n hx hb dX12_areTogether_64 rfl (lv_at hl 3 rfl) ?_
          obtain ⟨v19, h1, hf⟩ := bs hf
          refine am_endi hS (am_runS (As := [.int 84, .int x1, .int x3]) X (hml.trans hl.1.symm) hS (cX12_in_ok (l := l) (E := E) h1) ms_X12_319 ⟨Nat.le_trans (by decide) hR.1, Nat.le_trans (by decide) hR.2⟩ ⟨Nat.zero_le _, Nat.zero_le _⟩ rfl rfl (Nat.le_of_ble_eq_true rfl) dX12_areTogether_65) (fun H locs hS => ?_)
          obtain ⟨v20, h1, hf⟩ := bs hf
          refine am_ald X hS h1 dX12_areTogether_68 ?_
          refine lv_icmp_ne (tgt := 74) hx hb dX12_areTogether_69 (by decide) (fun q21 => ?_) (fun q21 => ?_)
          · have hf := ifn hf q21
            exact hj74 x3 H locs ls hf hS hl
          · have hf := ifp hf q21
            obtain rfl : Sum.inl () = ex10 := hyR10 _ (Option.some.inj hf).symm
            obtain rfl : Sum.inl () = ex2 := hyR2 _ (Option.some.inj hk10).symm
            exact hj72  H locs ls hk2 hS (lv_sub hl [] rfl)
set_option maxRecDepth 100000 in
theorem cX12_areTogether_ok {l : Launch} {E : Ev} {x0 : Nat} {x1 : Int32} {mm : Mem} {r : Int32} (hf : fX12_areTogether (eS E) x0 x1 mm = some r) : CtI l yX12_areTogether cX12_areTogether 4 (some .boolean) 1 22 E [.ref x0, .int x1] mm r mm := by
  refine Met.ofW (cc := cX12_areTogether) (maxL := 4) (ret := (some .boolean)) (by decide) rfl ?_
  intro p e s m args below meth c s₁ B hml hv
  obtain ⟨rfl, X, hS, hr, hlocks⟩ := am_in B hv
  refine am_entry (Nat.le_of_ble_eq_true rfl) (fun ls hl => ?_)
  exact wX12_areTogether X hml ⟨Nat.le_refl _, Nat.le_refl _⟩ hf (fun pc H locs ls hn hd hS => am_ri X hS hr hn hd hlocks) _ _ ls hS hl
set_option maxHeartbeats 4000000 in
set_option maxRecDepth 100000 in
theorem wX12_blurs {p : Program} {l : Launch} {e : Env} {R : Room} {s : State} {m : MethodId} {args : Array Value} {below : List Frame} {meth : Method} {c : Code} {Q : State → Prop} {E : Ev} (X : Cx p s m args c cX12_blurs RX12 E) (hml : c.maxLocals = 4) (hR : 6 ≤ R.frames ∧ 141 ≤ R.locals) {x0 : Nat} {x1 : Int32} {mm : Mem} {r : Int32} {mm1 : Mem} (hf : fX12_blurs (eS E) x0 x1 mm = some (r, mm1)) (hret : ∀ (pc : Nat) (H : Heap) (locs : List Loc) (ls : Array Slot), narrow .int (.int r) = .int r → decode cX12_blurs pc = .ok (.ireturn, 1) → wS E s mm1 H locs → W p l e R s m args below meth c H locs 0 0 Q (F0 m pc ls [.int r])) : ∀ (H : Heap) (locs : List Loc) (ls : Array Slot), wS E s mm H locs → lv_has ls 4 [(0, .ref x0), (1, .int x1)] → W p l e R s m args below meth c H locs 0 0 Q (F0 m 0 ls []) := by
  have hx := X.1
  have hb := X.2.1
  unfold fX12_blurs at hf
  have hj65 : ∀ (x2 : Int32) (mm : Mem) (H : Heap) (locs : List Loc) (ls : Array Slot), fX12_blurs_j65 (eS E) x2 mm = some (r, mm1) → wS E s mm H locs → lv_has ls 4 [(2, .int x2)] → W p l e R s m args below meth c H locs 0 0 Q (F0 m 65 ls []) := by
    intro x2 mm H locs ls hf hS hl
    unfold fX12_blurs_j65 at hf
    refine lv_iload_n hx hb dX12_blurs_65 rfl (lv_at hl 0 rfl) ?_
    cases hf
    exact hret _ _ _ _ rfl dX12_blurs_66 hS
  intro H locs ls hS hl
  refine lv_aload_n hx hb dX12_blurs_0 rfl (lv_at hl 0 rfl) ?_
  refine lv_iconst (v := 0) hx hb dX12_blurs_1 (by decide) ?_
  obtain ⟨m1, h1, hf⟩ := bs hf
  refine am_pi X hS fp_X12_3 rfl h1 dX12_blurs_2 (fun H locs hS => ?_)
  refine lv_aload_n hx hb dX12_blurs_5 rfl (lv_at hl 0 rfl) ?_
  refine lv_iload_n hx hb dX12_blurs_6 rfl (lv_at hl 1 rfl) ?_
  refine lv_iconst (v := 1) hx hb dX12_blurs_7 (by decide) ?_
  obtain ⟨u0, h0, hf⟩ := bs hf
  obtain ⟨_, hrc⟩ := isO_n h0
  obtain ⟨v2, m3, h1, hf⟩ := bs2 hf
  refine am_endi hS (am_runV (As := [.int x1, .int 1]) X (hml.trans hl.1.symm) hS (cX12_isFellow_ok (l := l) (E := E) h1) mv_X12_377 hrc rfl ⟨Nat.le_trans (by decide) hR.1, Nat.le_trans (by decide) hR.2⟩ ⟨Nat.zero_le _, Nat.zero_le _⟩ rfl rfl (Nat.le_of_ble_eq_true rfl) dX12_blurs_8) (fun H locs hS => ?_)
  refine lv_if_ne (tgt := 16) hx hb dX12_blurs_11 (by decide) (fun q4 => ?_) (fun q4 => ?_)
  · have hf := ifn hf q4
    refine lv_iconst (v := 0) hx hb dX12_blurs_16 (by decide) ?_
    refine lv_topi (fun x2_5 e1 => ?_)
    have hf := lt1_n e1 hf
    refine lv_istore_n (lv' := [(2, .int x2_5), (0, .ref x0), (1, .int x1)]) hx hb dX12_blurs_17 rfl hl (by decide) rfl (fun ls hl => ?_)
    refine lv_iconst (v := 0) hx hb dX12_blurs_18 (by decide) ?_
    refine lv_topi (fun x3_6 e1 => ?_)
    have hf := lt1_n e1 hf
    refine lv_istore_n (lv' := [(3, .int x3_6), (2, .int x2_5), (0, .ref x0), (1, .int x1)]) hx hb dX12_blurs_19 rfl hl (by decide) rfl (fun ls hl => ?_)
    obtain ⟨ex20, hl20, hk20⟩ := bs hf
    refine loop_W (P := fun st => ∀ (H : Heap) (locs : List Loc) (ls : Array Slot), wS E s st.2.2 H locs → lv_has ls 4 [(0, .ref x0), (1, .int x1), (2, .int st.1), (3, .int st.2.1)] → W p l e R s m args below meth c H locs 0 0 Q (F0 m 20 ls [])) (ex := ex20) ?_ FU _ hl20 H locs ls hS (lv_sub hl [2, 3, 1, 0] rfl)
    intro st y20 hf hyL20 hyR20 H locs ls hS hl
    obtain ⟨x2, x3, mm⟩ := st
    have hf : fX12_blurs_b20 (eS E) x0 x1 x2 x3 mm = some y20 := hf
    have hS : wS E s mm H locs := hS
    have hl : lv_has ls 4 [(0, .ref x0), (1, .int x1), (2, .int x2), (3, .int x3)] := hl
    unfold fX12_blurs_b20 at hf
    have hj57 : ∀ (x3 : Int32) (s0 : Int32) (s1 : Int32) (mm : Mem) (H : Heap) (locs : List Loc) (ls : Array Slot), fX12_blurs_j57 (eS E) x0 x1 x3 s0 s1 mm = some y20 → wS E s mm H locs → lv_has ls 4 [(0, .ref x0), (1, .int x1), (3, .int x3)] → W p l e R s m args below meth c H locs 0 0 Q (F0 m 57 ls [.int s1, .int s0]) := by
      intro x3 s0 s1 mm H locs ls hf hS hl
      unfold fX12_blurs_j57 at hf
      refine lv_ior hx hb dX12_blurs_57 ?_
      refine lv_topi (fun x2_7 e1 => ?_)
      have hf := lt1_n e1 hf
      refine lv_istore_n (lv' := [(2, .int x2_7), (0, .ref x0), (1, .int x1), (3, .int x3)]) hx hb dX12_blurs_58 rfl hl (by decide) rfl (fun ls hl => ?_)
      obtain ⟨x3_8, e1⟩ : ∃ z : Int32, z = x3 + 1 := ⟨_, rfl⟩
      have hf := lt1_n e1 hf
      refine lv_iinc (v := x3_8) (lv' := [(3, .int x3_8), (2, .int x2_7), (0, .ref x0), (1, .int x1)]) hx hb dX12_blurs_59 hl (k := 3) rfl (by rw [e1]; rfl) (by decide) rfl (fun ls hl => ?_)
      refine lv_goto (tgt := 20) hx hb dX12_blurs_62 (by decide) ?_
      exact hyL20 _ (Option.some.inj hf).symm H locs ls hS (lv_sub hl [2, 3, 1, 0] rfl)
    have hj56 : ∀ (x3 : Int32) (s0 : Int32) (mm : Mem) (H : Heap) (locs : List Loc) (ls : Array Slot), fX12_blurs_j56 (eS E) x0 x1 x3 s0 mm = some y20 → wS E s mm H locs → lv_has ls 4 [(0, .ref x0), (1, .int x1), (3, .int x3)] → W p l e R s m args below meth c H locs 0 0 Q (F0 m 56 ls [.int s0]) := by
      intro x3 s0 mm H locs ls hf hS hl
      unfold fX12_blurs_j56 at hf
      refine lv_iconst (v := 0) hx hb dX12_blurs_56 (by decide) ?_
      exact hj57 x3 s0 0 mm H locs ls hf hS hl
    refine lv_iload_n hx hb dX12_blurs_20 rfl (lv_at hl 3 rfl) ?_
    refine lv_aload_n hx hb dX12_blurs_21 rfl (lv_at hl 0 rfl) ?_
    obtain ⟨v9, h1, hf⟩ := bs hf
    refine am_gi X hS fl_X12_153 rfl h1 dX12_blurs_22 ?_
    refine lv_icmp_ge (tgt := 65) hx hb dX12_blurs_25 (by decide) (fun q10 => ?_) (fun q10 => ?_)
    · have hf := ifp hf q10
      obtain rfl : (x2, mm) = ex20 := hyR20 _ (Option.some.inj hf).symm
      exact hj65 x2 mm H locs ls hk20 hS (lv_sub hl [2] rfl)
    · have hf := ifn hf q10
      refine lv_aload_n hx hb dX12_blurs_28 rfl (lv_at hl 0 rfl) ?_
      obtain ⟨u0, h0, hf⟩ := bs hf
      obtain ⟨_, hrc⟩ := isO_n h0
      obtain ⟨m11, h1, hf⟩ := bs hf
      refine am_endv hS (am_runV (As := []) X (hml.trans hl.1.symm) hS (cX12_take_ok (l := l) (E := E) h1) mv_X12_301 hrc rfl ⟨Nat.le_trans (by decide) hR.1, Nat.le_trans (by decide) hR.2⟩ ⟨Nat.zero_le _, Nat.zero_le _⟩ rfl rfl (Nat.le_of_ble_eq_true rfl) dX12_blurs_29) (fun H locs hS => ?_)
      refine lv_iload_n hx hb dX12_blurs_32 rfl (lv_at hl 2 rfl) ?_
      refine lv_aload_n hx hb dX12_blurs_33 rfl (lv_at hl 0 rfl) ?_
      refine lv_iload_n hx hb dX12_blurs_34 rfl (lv_at hl 1 rfl) ?_
      refine lv_iload_n hx hb dX12_blurs_35 rfl (lv_at hl 3 rfl) ?_
      obtain ⟨u0, h0, hf⟩ := bs hf
      obtain ⟨_, hrc⟩ := isO_n h0
      obtain ⟨v12, m13, h1, hf⟩ := bs2 hf
      refine am_endi hS (am_runV (As := [.int x1, .int x3]) X (hml.trans hl.1.symm) hS (cX12_isParted_ok (l := l) (E := E) h1) mv_X12_345 hrc rfl ⟨Nat.le_trans (by decide) hR.1, Nat.le_trans (by decide) hR.2⟩ ⟨Nat.zero_le _, Nat.zero_le _⟩ rfl rfl (Nat.le_of_ble_eq_true rfl) dX12_blurs_36) (fun H locs hS => ?_)
      refine lv_if_eq (tgt := 56) hx hb dX12_blurs_39 (by decide) (fun q14 => ?_) (fun q14 => ?_)
      · have hf := ifp hf q14
        exact hj56 x3 x2 m13 H locs ls hf hS (lv_sub hl [0, 1, 3] rfl)
      · have hf := ifn hf q14
        refine lv_aload_n hx hb dX12_blurs_42 rfl (lv_at hl 0 rfl) ?_
        refine lv_iload_n hx hb dX12_blurs_43 rfl (lv_at hl 1 rfl) ?_
        obtain ⟨u0, h0, hf⟩ := bs hf
        obtain ⟨_, hrc⟩ := isO_n h0
        obtain ⟨v15, h1, hf⟩ := bs hf
        refine am_endi hS (am_runV (As := [.int x1]) X (hml.trans hl.1.symm) hS (cX12_areTogether_ok (l := l) (E := E) h1) mv_X12_444 hrc rfl ⟨Nat.le_trans (by decide) hR.1, Nat.le_trans (by decide) hR.2⟩ ⟨Nat.zero_le _, Nat.zero_le _⟩ rfl rfl (Nat.le_of_ble_eq_true rfl) dX12_blurs_44) (fun H locs hS => ?_)
        refine lv_if_eq (tgt := 56) hx hb dX12_blurs_47 (by decide) (fun q16 => ?_) (fun q16 => ?_)
        · have hf := ifp hf q16
          exact hj56 x3 x2 m13 H locs ls hf hS (lv_sub hl [0, 1, 3] rfl)
        · have hf := ifn hf q16
          refine lv_iconst (v := 1) hx hb dX12_blurs_50 (by decide) ?_
          refine lv_iload_n hx hb dX12_blurs_51 rfl (lv_at hl 3 rfl) ?_
          refine lv_ishl hx hb dX12_blurs_52 ?_
          refine lv_goto (tgt := 57) hx hb dX12_blurs_53 (by decide) ?_
          exact hj57 x3 x2 (1 <<< (x3 &&& 31)) m13 H locs ls hf hS (lv_sub hl [0, 1, 3] rfl)
  · have hf := ifp hf q4
    refine lv_iconst (v := 0) hx hb dX12_blurs_14 (by decide) ?_
    cases hf
    exact hret _ _ _ _ rfl dX12_blurs_15 hS
set_option maxRecDepth 100000 in
theorem cX12_blurs_ok {l : Launch} {E : Ev} {x0 : Nat} {x1 : Int32} {mm : Mem} {r : Int32} {mm1 : Mem} (hf : fX12_blurs (eS E) x0 x1 mm = some (r, mm1)) : CtI l yX12_blurs cX12_blurs 4 (some .int) 6 141 E [.ref x0, .int x1] mm r mm1 := by
  refine Met.ofW (cc := cX12_blurs) (maxL := 4) (ret := (some .int)) (by decide) rfl ?_
  intro p e s m args below meth c s₁ B hml hv
  obtain ⟨rfl, X, hS, hr, hlocks⟩ := am_in B hv
  refine am_entry (Nat.le_of_ble_eq_true rfl) (fun ls hl => ?_)
  exact wX12_blurs X hml ⟨Nat.le_refl _, Nat.le_refl _⟩ hf (fun pc H locs ls hn hd hS => am_ri X hS hr hn hd hlocks) _ _ ls hS hl
set_option maxHeartbeats 4000000 in
set_option maxRecDepth 100000 in
theorem wX12_lit {p : Program} {l : Launch} {e : Env} {R : Room} {s : State} {m : MethodId} {args : Array Value} {below : List Frame} {meth : Method} {c : Code} {Q : State → Prop} {E : Ev} (X : Cx p s m args c cX12_lit RX12 E) (hml : c.maxLocals = 3) (hR : 2 ≤ R.frames ∧ 44 ≤ R.locals) {x0 : Nat} {mm : Mem} {r : Int32} {mm1 : Mem} (hf : fX12_lit (eS E) x0 mm = some (r, mm1)) (hret : ∀ (pc : Nat) (H : Heap) (locs : List Loc) (ls : Array Slot), narrow .int (.int r) = .int r → decode cX12_lit pc = .ok (.ireturn, 1) → wS E s mm1 H locs → W p l e R s m args below meth c H locs 0 0 Q (F0 m pc ls [.int r])) : ∀ (H : Heap) (locs : List Loc) (ls : Array Slot), wS E s mm H locs → lv_has ls 3 [(0, .ref x0)] → W p l e R s m args below meth c H locs 0 0 Q (F0 m 0 ls []) := by
  have hx := X.1
  have hb := X.2.1
  unfold fX12_lit at hf
  have hj43 : ∀ (x1 : Int32) (mm : Mem) (H : Heap) (locs : List Loc) (ls : Array Slot), fX12_lit_j43 (eS E) x1 mm = some (r, mm1) → wS E s mm H locs → lv_has ls 3 [(1, .int x1)] → W p l e R s m args below meth c H locs 0 0 Q (F0 m 43 ls []) := by
    intro x1 mm H locs ls hf hS hl
    unfold fX12_lit_j43 at hf
    refine lv_iload_n hx hb dX12_lit_43 rfl (lv_at hl 0 rfl) ?_
    cases hf
    exact hret _ _ _ _ rfl dX12_lit_44 hS
  intro H locs ls hS hl
  refine lv_aload_n hx hb dX12_lit_0 rfl (lv_at hl 0 rfl) ?_
  refine lv_iconst (v := 0) hx hb dX12_lit_1 (by decide) ?_
  obtain ⟨m1, h1, hf⟩ := bs hf
  refine am_pi X hS fp_X12_3 rfl h1 dX12_lit_2 (fun H locs hS => ?_)
  refine lv_aload_n hx hb dX12_lit_5 rfl (lv_at hl 0 rfl) ?_
  obtain ⟨u0, h0, hf⟩ := bs hf
  obtain ⟨_, hrc⟩ := isO_n h0
  obtain ⟨m2, h1, hf⟩ := bs hf
  refine am_endv hS (am_runV (As := []) X (hml.trans hl.1.symm) hS (cX12_take_ok (l := l) (E := E) h1) mv_X12_301 hrc rfl ⟨Nat.le_trans (by decide) hR.1, Nat.le_trans (by decide) hR.2⟩ ⟨Nat.zero_le _, Nat.zero_le _⟩ rfl rfl (Nat.le_of_ble_eq_true rfl) dX12_lit_6) (fun H locs hS => ?_)
  refine lv_iconst (v := 0) hx hb dX12_lit_9 (by decide) ?_
  refine lv_topi (fun x1_3 e1 => ?_)
  have hf := lt1_n e1 hf
  refine lv_istore_n (lv' := [(1, .int x1_3), (0, .ref x0)]) hx hb dX12_lit_10 rfl hl (by decide) rfl (fun ls hl => ?_)
  refine lv_iconst (v := 0) hx hb dX12_lit_11 (by decide) ?_
  refine lv_topi (fun x2_4 e1 => ?_)
  have hf := lt1_n e1 hf
  refine lv_istore_n (lv' := [(2, .int x2_4), (1, .int x1_3), (0, .ref x0)]) hx hb dX12_lit_12 rfl hl (by decide) rfl (fun ls hl => ?_)
  obtain ⟨ex13, hl13, hk13⟩ := bs hf
  refine loop_W (P := fun st => ∀ (H : Heap) (locs : List Loc) (ls : Array Slot), wS E s m2 H locs → lv_has ls 3 [(0, .ref x0), (1, .int st.1), (2, .int st.2)] → W p l e R s m args below meth c H locs 0 0 Q (F0 m 13 ls [])) (ex := ex13) ?_ FU _ hl13 H locs ls hS (lv_sub hl [2, 1, 0] rfl)
  intro st y13 hf hyL13 hyR13 H locs ls hS hl
  obtain ⟨x1, x2⟩ := st
  obtain ⟨mm, rfl⟩ : ∃ z, z = m2 := ⟨_, rfl⟩
  have hf : fX12_lit_b13 (eS E) x0 x1 x2 mm = some y13 := hf
  have hS : wS E s mm H locs := hS
  have hl : lv_has ls 3 [(0, .ref x0), (1, .int x1), (2, .int x2)] := hl
  unfold fX12_lit_b13 at hf
  have hj35 : ∀ (x2 : Int32) (s0 : Int32) (s1 : Int32) (H : Heap) (locs : List Loc) (ls : Array Slot), fX12_lit_j35 (eS E) x0 x2 s0 s1 mm = some y13 → wS E s mm H locs → lv_has ls 3 [(0, .ref x0), (2, .int x2)] → W p l e R s m args below meth c H locs 0 0 Q (F0 m 35 ls [.int s1, .int s0]) := by
    intro x2 s0 s1 H locs ls hf hS hl
    unfold fX12_lit_j35 at hf
    refine lv_iadd hx hb dX12_lit_35 ?_
    refine lv_topi (fun x1_5 e1 => ?_)
    have hf := lt1_n e1 hf
    refine lv_istore_n (lv' := [(1, .int x1_5), (0, .ref x0), (2, .int x2)]) hx hb dX12_lit_36 rfl hl (by decide) rfl (fun ls hl => ?_)
    obtain ⟨x2_6, e1⟩ : ∃ z : Int32, z = x2 + 1 := ⟨_, rfl⟩
    have hf := lt1_n e1 hf
    refine lv_iinc (v := x2_6) (lv' := [(2, .int x2_6), (1, .int x1_5), (0, .ref x0)]) hx hb dX12_lit_37 hl (k := 2) rfl (by rw [e1]; rfl) (by decide) rfl (fun ls hl => ?_)
    refine lv_goto (tgt := 13) hx hb dX12_lit_40 (by decide) ?_
    exact hyL13 _ (Option.some.inj hf).symm H locs ls hS (lv_sub hl [2, 1, 0] rfl)
  refine lv_iload_n hx hb dX12_lit_13 rfl (lv_at hl 2 rfl) ?_
  refine lv_aload_n hx hb dX12_lit_14 rfl (lv_at hl 0 rfl) ?_
  obtain ⟨v7, h1, hf⟩ := bs hf
  refine am_gi X hS fl_X12_156 rfl h1 dX12_lit_15 ?_
  refine lv_icmp_ge (tgt := 43) hx hb dX12_lit_18 (by decide) (fun q8 => ?_) (fun q8 => ?_)
  · have hf := ifp hf q8
    obtain rfl : x1 = ex13 := hyR13 _ (Option.some.inj hf).symm
    exact hj43 x1 mm H locs ls hk13 hS (lv_sub hl [1] rfl)
  · have hf := ifn hf q8
    refine lv_iload_n hx hb dX12_lit_21 rfl (lv_at hl 1 rfl) ?_
    refine lv_aload_n hx hb dX12_lit_22 rfl (lv_at hl 0 rfl) ?_
    refine lv_iload_n hx hb dX12_lit_23 rfl (lv_at hl 2 rfl) ?_
    obtain ⟨u0, h0, hf⟩ := bs hf
    obtain ⟨_, hrc⟩ := isO_n h0
    obtain ⟨v9, h1, hf⟩ := bs hf
    refine am_endi hS (am_runV (As := [.int x2]) X (hml.trans hl.1.symm) hS (cX12_atPlace_ok (l := l) (E := E) h1) mv_X12_392 hrc rfl ⟨Nat.le_trans (by decide) hR.1, Nat.le_trans (by decide) hR.2⟩ ⟨Nat.zero_le _, Nat.zero_le _⟩ rfl rfl (Nat.le_of_ble_eq_true rfl) dX12_lit_24) (fun H locs hS => ?_)
    refine lv_if_le (tgt := 34) hx hb dX12_lit_27 (by decide) (fun q10 => ?_) (fun q10 => ?_)
    · have hf := ifp hf q10
      refine lv_iconst (v := 0) hx hb dX12_lit_34 (by decide) ?_
      exact hj35 x2 x1 0 H locs ls hf hS (lv_sub hl [0, 2] rfl)
    · have hf := ifn hf q10
      refine lv_iconst (v := 1) hx hb dX12_lit_30 (by decide) ?_
      refine lv_goto (tgt := 35) hx hb dX12_lit_31 (by decide) ?_
      exact hj35 x2 x1 1 H locs ls hf hS (lv_sub hl [0, 2] rfl)
set_option maxRecDepth 100000 in
theorem cX12_lit_ok {l : Launch} {E : Ev} {x0 : Nat} {mm : Mem} {r : Int32} {mm1 : Mem} (hf : fX12_lit (eS E) x0 mm = some (r, mm1)) : CtI l yX12_lit cX12_lit 3 (some .int) 2 44 E [.ref x0] mm r mm1 := by
  refine Met.ofW (cc := cX12_lit) (maxL := 3) (ret := (some .int)) (by decide) rfl ?_
  intro p e s m args below meth c s₁ B hml hv
  obtain ⟨rfl, X, hS, hr, hlocks⟩ := am_in B hv
  refine am_entry (Nat.le_of_ble_eq_true rfl) (fun ls hl => ?_)
  exact wX12_lit X hml ⟨Nat.le_refl _, Nat.le_refl _⟩ hf (fun pc H locs ls hn hd hS => am_ri X hS hr hn hd hlocks) _ _ ls hS hl
set_option maxHeartbeats 4000000 in
set_option maxRecDepth 100000 in
theorem wX12_strongestOf {p : Program} {l : Launch} {e : Env} {R : Room} {s : State} {m : MethodId} {args : Array Value} {below : List Frame} {meth : Method} {c : Code} {Q : State → Prop} {E : Ev} (X : Cx p s m args c cX12_strongestOf RX12 E) (hml : c.maxLocals = 4) (hR : 1 ≤ R.frames ∧ 22 ≤ R.locals) {x0 : Nat} {x1 : Int32} {mm : Mem} {r : Int32} (hf : fX12_strongestOf (eS E) x0 x1 mm = some r) (hret : ∀ (pc : Nat) (H : Heap) (locs : List Loc) (ls : Array Slot), narrow .int (.int r) = .int r → decode cX12_strongestOf pc = .ok (.ireturn, 1) → wS E s mm H locs → W p l e R s m args below meth c H locs 0 0 Q (F0 m pc ls [.int r])) : ∀ (H : Heap) (locs : List Loc) (ls : Array Slot), wS E s mm H locs → lv_has ls 4 [(0, .ref x0), (1, .int x1)] → W p l e R s m args below meth c H locs 0 0 Q (F0 m 0 ls []) := by
  have hx := X.1
  have hb := X.2.1
  unfold fX12_strongestOf at hf
  have hj47 : ∀ (x2 : Int32) (H : Heap) (locs : List Loc) (ls : Array Slot), fX12_strongestOf_j47 (eS E) x2 mm = some r → wS E s mm H locs → lv_has ls 4 [(2, .int x2)] → W p l e R s m args below meth c H locs 0 0 Q (F0 m 47 ls []) := by
    intro x2 H locs ls hf hS hl
    unfold fX12_strongestOf_j47 at hf
    refine lv_iload_n hx hb dX12_strongestOf_47 rfl (lv_at hl 0 rfl) ?_
    cases hf
    exact hret _ _ _ _ rfl dX12_strongestOf_48 hS
  intro H locs ls hS hl
  refine lv_iconst (v := 0) hx hb dX12_strongestOf_0 (by decide) ?_
  refine lv_topi (fun x2_1 e1 => ?_)
  have hf := lt1_n e1 hf
  refine lv_istore_n (lv' := [(2, .int x2_1), (0, .ref x0), (1, .int x1)]) hx hb dX12_strongestOf_1 rfl hl (by decide) rfl (fun ls hl => ?_)
  refine lv_iconst (v := 0) hx hb dX12_strongestOf_2 (by decide) ?_
  refine lv_topi (fun x3_2 e1 => ?_)
  have hf := lt1_n e1 hf
  refine lv_istore_n (lv' := [(3, .int x3_2), (2, .int x2_1), (0, .ref x0), (1, .int x1)]) hx hb dX12_strongestOf_3 rfl hl (by decide) rfl (fun ls hl => ?_)
  obtain ⟨ex4, hl4, hk4⟩ := bs hf
  refine loop_W (P := fun st => ∀ (H : Heap) (locs : List Loc) (ls : Array Slot), wS E s mm H locs → lv_has ls 4 [(0, .ref x0), (1, .int x1), (2, .int st.1), (3, .int st.2)] → W p l e R s m args below meth c H locs 0 0 Q (F0 m 4 ls [])) (ex := ex4) ?_ FU _ hl4 H locs ls hS (lv_sub hl [2, 3, 1, 0] rfl)
  intro st y4 hf hyL4 hyR4 H locs ls hS hl
  obtain ⟨x2, x3⟩ := st
  have hf : fX12_strongestOf_b4 (eS E) x0 x1 x2 x3 mm = some y4 := hf
  have hS : wS E s mm H locs := hS
  have hl : lv_has ls 4 [(0, .ref x0), (1, .int x1), (2, .int x2), (3, .int x3)] := hl
  unfold fX12_strongestOf_b4 at hf
  have hj40 : ∀ (x3 : Int32) (s0 : Int32) (H : Heap) (locs : List Loc) (ls : Array Slot), fX12_strongestOf_j40 (eS E) x0 x1 x3 s0 mm = some y4 → wS E s mm H locs → lv_has ls 4 [(0, .ref x0), (1, .int x1), (3, .int x3)] → W p l e R s m args below meth c H locs 0 0 Q (F0 m 40 ls [.int s0]) := by
    intro x3 s0 H locs ls hf hS hl
    unfold fX12_strongestOf_j40 at hf
    refine lv_topi (fun x2_3 e1 => ?_)
    have hf := lt1_n e1 hf
    refine lv_istore_n (lv' := [(2, .int x2_3), (0, .ref x0), (1, .int x1), (3, .int x3)]) hx hb dX12_strongestOf_40 rfl hl (by decide) rfl (fun ls hl => ?_)
    obtain ⟨x3_4, e1⟩ : ∃ z : Int32, z = x3 + 1 := ⟨_, rfl⟩
    have hf := lt1_n e1 hf
    refine lv_iinc (v := x3_4) (lv' := [(3, .int x3_4), (2, .int x2_3), (0, .ref x0), (1, .int x1)]) hx hb dX12_strongestOf_41 hl (k := 3) rfl (by rw [e1]; rfl) (by decide) rfl (fun ls hl => ?_)
    refine lv_goto (tgt := 4) hx hb dX12_strongestOf_44 (by decide) ?_
    exact hyL4 _ (Option.some.inj hf).symm H locs ls hS (lv_sub hl [2, 3, 1, 0] rfl)
  refine lv_iload_n hx hb dX12_strongestOf_4 rfl (lv_at hl 3 rfl) ?_
  refine lv_bipush (v := 7) hx hb dX12_strongestOf_5 (by decide) ?_
  refine lv_icmp_ge (tgt := 47) hx hb dX12_strongestOf_7 (by decide) (fun q5 => ?_) (fun q5 => ?_)
  · have hf := ifp hf q5
    obtain rfl : x2 = ex4 := hyR4 _ (Option.some.inj hf).symm
    exact hj47 x2 H locs ls hk4 hS (lv_sub hl [2] rfl)
  · have hf := ifn hf q5
    refine lv_aload_n hx hb dX12_strongestOf_10 rfl (lv_at hl 0 rfl) ?_
    obtain ⟨a6, h1, hf⟩ := bs hf
    refine am_gr X hS fl_X12_59 rfl h1 dX12_strongestOf_11 ?_
    refine lv_iconst (v := 0) hx hb dX12_strongestOf_14 (by decide) ?_
    refine lv_iload_n hx hb dX12_strongestOf_15 rfl (lv_at hl 1 rfl) ?_
    refine lv_iload_n hx hb dX12_strongestOf_16 rfl (lv_at hl 3 rfl) ?_
    obtain ⟨v7, h1, hf⟩ := bs hf
    refine am_endi hS (am_runS (As := [.int 0, .int x1, .int x3]) X (hml.trans hl.1.symm) hS (cX12_in_ok (l := l) (E := E) h1) ms_X12_319 ⟨Nat.le_trans (by decide) hR.1, Nat.le_trans (by decide) hR.2⟩ ⟨Nat.zero_le _, Nat.zero_le _⟩ rfl rfl (Nat.le_of_ble_eq_true rfl) dX12_strongestOf_17) (fun H locs hS => ?_)
    obtain ⟨v8, h1, hf⟩ := bs hf
    refine am_ald X hS h1 dX12_strongestOf_20 ?_
    refine lv_iload_n hx hb dX12_strongestOf_21 rfl (lv_at hl 2 rfl) ?_
    refine lv_icmp_le (tgt := 39) hx hb dX12_strongestOf_22 (by decide) (fun q9 => ?_) (fun q9 => ?_)
    · have hf := ifp hf q9
      refine lv_iload_n hx hb dX12_strongestOf_39 rfl (lv_at hl 2 rfl) ?_
      exact hj40 x3 x2 H locs ls hf hS (lv_sub hl [0, 1, 3] rfl)
    · have hf := ifn hf q9
      refine lv_aload_n hx hb dX12_strongestOf_25 rfl (lv_at hl 0 rfl) ?_
      obtain ⟨a10, h1, hf⟩ := bs hf
      refine am_gr X hS fl_X12_59 rfl h1 dX12_strongestOf_26 ?_
      refine lv_iconst (v := 0) hx hb dX12_strongestOf_29 (by decide) ?_
      refine lv_iload_n hx hb dX12_strongestOf_30 rfl (lv_at hl 1 rfl) ?_
      refine lv_iload_n hx hb dX12_strongestOf_31 rfl (lv_at hl 3 rfl) ?_
      obtain ⟨v11, h1, hf⟩ := bs hf
      refine am_endi hS (am_runS (As := [.int 0, .int x1, .int x3]) X (hml.trans hl.1.symm) hS (cX12_in_ok (l := l) (E := E) h1) ms_X12_319 ⟨Nat.le_trans (by decide) hR.1, Nat.le_trans (by decide) hR.2⟩ ⟨Nat.zero_le _, Nat.zero_le _⟩ rfl rfl (Nat.le_of_ble_eq_true rfl) dX12_strongestOf_32) (fun H locs hS => ?_)
      obtain ⟨v12, h1, hf⟩ := bs hf
      refine am_ald X hS h1 dX12_strongestOf_35 ?_
      refine lv_goto (tgt := 40) hx hb dX12_strongestOf_36 (by decide) ?_
      exact hj40 x3 v12 H locs ls hf hS (lv_sub hl [0, 1, 3] rfl)
set_option maxRecDepth 100000 in
theorem cX12_strongestOf_ok {l : Launch} {E : Ev} {x0 : Nat} {x1 : Int32} {mm : Mem} {r : Int32} (hf : fX12_strongestOf (eS E) x0 x1 mm = some r) : CtI l yX12_strongestOf cX12_strongestOf 4 (some .int) 1 22 E [.ref x0, .int x1] mm r mm := by
  refine Met.ofW (cc := cX12_strongestOf) (maxL := 4) (ret := (some .int)) (by decide) rfl ?_
  intro p e s m args below meth c s₁ B hml hv
  obtain ⟨rfl, X, hS, hr, hlocks⟩ := am_in B hv
  refine am_entry (Nat.le_of_ble_eq_true rfl) (fun ls hl => ?_)
  exact wX12_strongestOf X hml ⟨Nat.le_refl _, Nat.le_refl _⟩ hf (fun pc H locs ls hn hd hS => am_ri X hS hr hn hd hlocks) _ _ ls hS hl
set_option maxHeartbeats 4000000 in
set_option maxRecDepth 100000 in
theorem wX12_lacks {p : Program} {l : Launch} {e : Env} {R : Room} {s : State} {m : MethodId} {args : Array Value} {below : List Frame} {meth : Method} {c : Code} {Q : State → Prop} {E : Ev} (X : Cx p s m args c cX12_lacks RX12 E) (hml : c.maxLocals = 3) (hR : 2 ≤ R.frames ∧ 45 ≤ R.locals) {x0 : Nat} {x1 : Int32} {x2 : Int32} {mm : Mem} {r : Int32} {mm1 : Mem} (hf : fX12_lacks (eS E) x0 x1 x2 mm = some (r, mm1)) (hret : ∀ (pc : Nat) (H : Heap) (locs : List Loc) (ls : Array Slot), narrow .int (.int r) = .int r → decode cX12_lacks pc = .ok (.ireturn, 1) → wS E s mm1 H locs → W p l e R s m args below meth c H locs 0 0 Q (F0 m pc ls [.int r])) : ∀ (H : Heap) (locs : List Loc) (ls : Array Slot), wS E s mm H locs → lv_has ls 3 [(0, .ref x0), (1, .int x1), (2, .int x2)] → W p l e R s m args below meth c H locs 0 0 Q (F0 m 0 ls []) := by
  have hx := X.1
  have hb := X.2.1
  unfold fX12_lacks at hf
  have hj27 : ∀ (mm : Mem) (H : Heap) (locs : List Loc) (ls : Array Slot), fX12_lacks_j27 (eS E) mm = some (r, mm1) → wS E s mm H locs → lv_has ls 3 [] → W p l e R s m args below meth c H locs 0 0 Q (F0 m 27 ls []) := by
    intro mm H locs ls hf hS hl
    unfold fX12_lacks_j27 at hf
    refine lv_iconst (v := 0) hx hb dX12_lacks_27 (by decide) ?_
    cases hf
    exact hret _ _ _ _ rfl dX12_lacks_28 hS
  intro H locs ls hS hl
  refine lv_aload_n hx hb dX12_lacks_0 rfl (lv_at hl 0 rfl) ?_
  refine lv_iconst (v := 0) hx hb dX12_lacks_1 (by decide) ?_
  obtain ⟨m1, h1, hf⟩ := bs hf
  refine am_pi X hS fp_X12_3 rfl h1 dX12_lacks_2 (fun H locs hS => ?_)
  refine lv_aload_n hx hb dX12_lacks_5 rfl (lv_at hl 0 rfl) ?_
  refine lv_iload_n hx hb dX12_lacks_6 rfl (lv_at hl 1 rfl) ?_
  refine lv_iconst (v := 1) hx hb dX12_lacks_7 (by decide) ?_
  obtain ⟨u0, h0, hf⟩ := bs hf
  obtain ⟨_, hrc⟩ := isO_n h0
  obtain ⟨v2, m3, h1, hf⟩ := bs2 hf
  refine am_endi hS (am_runV (As := [.int x1, .int 1]) X (hml.trans hl.1.symm) hS (cX12_isFellow_ok (l := l) (E := E) h1) mv_X12_377 hrc rfl ⟨Nat.le_trans (by decide) hR.1, Nat.le_trans (by decide) hR.2⟩ ⟨Nat.zero_le _, Nat.zero_le _⟩ rfl rfl (Nat.le_of_ble_eq_true rfl) dX12_lacks_8) (fun H locs hS => ?_)
  refine lv_if_eq (tgt := 27) hx hb dX12_lacks_11 (by decide) (fun q4 => ?_) (fun q4 => ?_)
  · have hf := ifp hf q4
    exact hj27 m3 H locs ls hf hS (lv_sub hl [] rfl)
  · have hf := ifn hf q4
    refine lv_aload_n hx hb dX12_lacks_14 rfl (lv_at hl 0 rfl) ?_
    refine lv_iload_n hx hb dX12_lacks_15 rfl (lv_at hl 2 rfl) ?_
    obtain ⟨v5, h1, hf⟩ := bs hf
    refine am_endi hS (am_runS (As := [.int x2]) X (hml.trans hl.1.symm) hS (cX12_isPart_ok (l := l) (E := E) h1) ms_X12_386 ⟨Nat.le_trans (by decide) hR.1, Nat.le_trans (by decide) hR.2⟩ ⟨Nat.zero_le _, Nat.zero_le _⟩ rfl rfl (Nat.le_of_ble_eq_true rfl) dX12_lacks_16) (fun H locs hS => ?_)
    refine lv_iconst (v := 2) hx hb dX12_lacks_19 (by decide) ?_
    refine lv_iconst (v := 1) hx hb dX12_lacks_20 (by decide) ?_
    obtain ⟨u0, h0, hf⟩ := bs hf
    obtain ⟨_, hrc⟩ := isO_n h0
    obtain ⟨v6, m7, h1, hf⟩ := bs2 hf
    refine am_endi hS (am_runV (As := [.int v5, .int 2, .int 1]) X (hml.trans hl.1.symm) hS (cX12_may_ok (l := l) (E := E) h1) mv_X12_190 hrc rfl ⟨Nat.le_trans (by decide) hR.1, Nat.le_trans (by decide) hR.2⟩ ⟨Nat.zero_le _, Nat.zero_le _⟩ rfl rfl (Nat.le_of_ble_eq_true rfl) dX12_lacks_21) (fun H locs hS => ?_)
    refine lv_if_ne (tgt := 29) hx hb dX12_lacks_24 (by decide) (fun q8 => ?_) (fun q8 => ?_)
    · have hf := ifn hf q8
      refine lv_aload_n hx hb dX12_lacks_29 rfl (lv_at hl 0 rfl) ?_
      refine lv_iload_n hx hb dX12_lacks_30 rfl (lv_at hl 1 rfl) ?_
      obtain ⟨u0, h0, hf⟩ := bs hf
      obtain ⟨_, hrc⟩ := isO_n h0
      obtain ⟨v9, h1, hf⟩ := bs hf
      refine am_endi hS (am_runV (As := [.int x1]) X (hml.trans hl.1.symm) hS (cX12_strongestOf_ok (l := l) (E := E) h1) mv_X12_447 hrc rfl ⟨Nat.le_trans (by decide) hR.1, Nat.le_trans (by decide) hR.2⟩ ⟨Nat.zero_le _, Nat.zero_le _⟩ rfl rfl (Nat.le_of_ble_eq_true rfl) dX12_lacks_31) (fun H locs hS => ?_)
      refine lv_aload_n hx hb dX12_lacks_34 rfl (lv_at hl 0 rfl) ?_
      obtain ⟨a10, h1, hf⟩ := bs hf
      refine am_gr X hS fl_X12_59 rfl h1 dX12_lacks_35 ?_
      refine lv_iconst (v := 0) hx hb dX12_lacks_38 (by decide) ?_
      refine lv_iload_n hx hb dX12_lacks_39 rfl (lv_at hl 1 rfl) ?_
      refine lv_iload_n hx hb dX12_lacks_40 rfl (lv_at hl 2 rfl) ?_
      obtain ⟨v11, h1, hf⟩ := bs hf
      refine am_endi hS (am_runS (As := [.int 0, .int x1, .int x2]) X (hml.trans hl.1.symm) hS (cX12_in_ok (l := l) (E := E) h1) ms_X12_319 ⟨Nat.le_trans (by decide) hR.1, Nat.le_trans (by decide) hR.2⟩ ⟨Nat.zero_le _, Nat.zero_le _⟩ rfl rfl (Nat.le_of_ble_eq_true rfl) dX12_lacks_41) (fun H locs hS => ?_)
      obtain ⟨v12, h1, hf⟩ := bs hf
      refine am_ald X hS h1 dX12_lacks_44 ?_
      refine lv_isub hx hb dX12_lacks_45 ?_
      cases hf
      exact hret _ _ _ _ rfl dX12_lacks_46 hS
    · have hf := ifp hf q8
      exact hj27 m7 H locs ls hf hS (lv_sub hl [] rfl)
set_option maxRecDepth 100000 in
theorem cX12_lacks_ok {l : Launch} {E : Ev} {x0 : Nat} {x1 : Int32} {x2 : Int32} {mm : Mem} {r : Int32} {mm1 : Mem} (hf : fX12_lacks (eS E) x0 x1 x2 mm = some (r, mm1)) : CtI l yX12_lacks cX12_lacks 3 (some .int) 2 45 E [.ref x0, .int x1, .int x2] mm r mm1 := by
  refine Met.ofW (cc := cX12_lacks) (maxL := 3) (ret := (some .int)) (by decide) rfl ?_
  intro p e s m args below meth c s₁ B hml hv
  obtain ⟨rfl, X, hS, hr, hlocks⟩ := am_in B hv
  refine am_entry (Nat.le_of_ble_eq_true rfl) (fun ls hl => ?_)
  exact wX12_lacks X hml ⟨Nat.le_refl _, Nat.le_refl _⟩ hf (fun pc H locs ls hn hd hS => am_ri X hS hr hn hd hlocks) _ _ ls hS hl
set_option maxHeartbeats 4000000 in
set_option maxRecDepth 100000 in
theorem wX12_mates {p : Program} {l : Launch} {e : Env} {R : Room} {s : State} {m : MethodId} {args : Array Value} {below : List Frame} {meth : Method} {c : Code} {Q : State → Prop} {E : Ev} (X : Cx p s m args c cX12_mates RX12 E) (hml : c.maxLocals = 5) (hR : 3 ≤ R.frames ∧ 68 ≤ R.locals) {x0 : Nat} {x1 : Int32} {mm : Mem} {r : Int32} {mm1 : Mem} (hf : fX12_mates (eS E) x0 x1 mm = some (r, mm1)) (hret : ∀ (pc : Nat) (H : Heap) (locs : List Loc) (ls : Array Slot), narrow .int (.int r) = .int r → decode cX12_mates pc = .ok (.ireturn, 1) → wS E s mm1 H locs → W p l e R s m args below meth c H locs 0 0 Q (F0 m pc ls [.int r])) : ∀ (H : Heap) (locs : List Loc) (ls : Array Slot), wS E s mm H locs → lv_has ls 5 [(0, .ref x0), (1, .int x1)] → W p l e R s m args below meth c H locs 0 0 Q (F0 m 0 ls []) := by
  have hx := X.1
  have hb := X.2.1
  unfold fX12_mates at hf
  have hj80 : ∀ (x2 : Int32) (mm : Mem) (H : Heap) (locs : List Loc) (ls : Array Slot), fX12_mates_j80 (eS E) x2 mm = some (r, mm1) → wS E s mm H locs → lv_has ls 5 [(2, .int x2)] → W p l e R s m args below meth c H locs 0 0 Q (F0 m 80 ls []) := by
    intro x2 mm H locs ls hf hS hl
    unfold fX12_mates_j80 at hf
    refine lv_iload_n hx hb dX12_mates_80 rfl (lv_at hl 0 rfl) ?_
    cases hf
    exact hret _ _ _ _ rfl dX12_mates_81 hS
  intro H locs ls hS hl
  refine lv_aload_n hx hb dX12_mates_0 rfl (lv_at hl 0 rfl) ?_
  refine lv_iconst (v := 0) hx hb dX12_mates_1 (by decide) ?_
  obtain ⟨m1, h1, hf⟩ := bs hf
  refine am_pi X hS fp_X12_3 rfl h1 dX12_mates_2 (fun H locs hS => ?_)
  refine lv_aload_n hx hb dX12_mates_5 rfl (lv_at hl 0 rfl) ?_
  refine lv_iload_n hx hb dX12_mates_6 rfl (lv_at hl 1 rfl) ?_
  refine lv_iconst (v := 1) hx hb dX12_mates_7 (by decide) ?_
  obtain ⟨u0, h0, hf⟩ := bs hf
  obtain ⟨_, hrc⟩ := isO_n h0
  obtain ⟨v2, m3, h1, hf⟩ := bs2 hf
  refine am_endi hS (am_runV (As := [.int x1, .int 1]) X (hml.trans hl.1.symm) hS (cX12_isFellow_ok (l := l) (E := E) h1) mv_X12_377 hrc rfl ⟨Nat.le_trans (by decide) hR.1, Nat.le_trans (by decide) hR.2⟩ ⟨Nat.zero_le _, Nat.zero_le _⟩ rfl rfl (Nat.le_of_ble_eq_true rfl) dX12_mates_8) (fun H locs hS => ?_)
  refine lv_if_ne (tgt := 16) hx hb dX12_mates_11 (by decide) (fun q4 => ?_) (fun q4 => ?_)
  · have hf := ifn hf q4
    refine lv_aload_n hx hb dX12_mates_16 rfl (lv_at hl 0 rfl) ?_
    obtain ⟨u0, h0, hf⟩ := bs hf
    obtain ⟨_, hrc⟩ := isO_n h0
    obtain ⟨m5, h1, hf⟩ := bs hf
    refine am_endv hS (am_runV (As := []) X (hml.trans hl.1.symm) hS (cX12_take_ok (l := l) (E := E) h1) mv_X12_301 hrc rfl ⟨Nat.le_trans (by decide) hR.1, Nat.le_trans (by decide) hR.2⟩ ⟨Nat.zero_le _, Nat.zero_le _⟩ rfl rfl (Nat.le_of_ble_eq_true rfl) dX12_mates_17) (fun H locs hS => ?_)
    refine lv_iconst (v := 0) hx hb dX12_mates_20 (by decide) ?_
    refine lv_topi (fun x2_6 e1 => ?_)
    have hf := lt1_n e1 hf
    refine lv_istore_n (lv' := [(2, .int x2_6), (0, .ref x0), (1, .int x1)]) hx hb dX12_mates_21 rfl hl (by decide) rfl (fun ls hl => ?_)
    refine lv_iconst (v := 0) hx hb dX12_mates_22 (by decide) ?_
    refine lv_topi (fun x3_7 e1 => ?_)
    have hf := lt1_n e1 hf
    refine lv_istore_n (lv' := [(3, .int x3_7), (2, .int x2_6), (0, .ref x0), (1, .int x1)]) hx hb dX12_mates_23 rfl hl (by decide) rfl (fun ls hl => ?_)
    obtain ⟨ex24, hl24, hk24⟩ := bs hf
    refine loop_W (P := fun st => ∀ (H : Heap) (locs : List Loc) (ls : Array Slot), wS E s m5 H locs → lv_has ls 5 [(0, .ref x0), (1, .int x1), (2, .int st.1), (3, .int st.2)] → W p l e R s m args below meth c H locs 0 0 Q (F0 m 24 ls [])) (ex := ex24) ?_ FU _ hl24 H locs ls hS (lv_sub hl [2, 3, 1, 0] rfl)
    intro st y24 hf hyL24 hyR24 H locs ls hS hl
    obtain ⟨x2, x3⟩ := st
    obtain ⟨mm, rfl⟩ : ∃ z, z = m5 := ⟨_, rfl⟩
    have hf : fX12_mates_b24 (eS E) x0 x1 x2 x3 mm = some y24 := hf
    have hS : wS E s mm H locs := hS
    have hl : lv_has ls 5 [(0, .ref x0), (1, .int x1), (2, .int x2), (3, .int x3)] := hl
    unfold fX12_mates_b24 at hf
    have hj72 : ∀ (x3 : Int32) (s0 : Int32) (s1 : Int32) (H : Heap) (locs : List Loc) (ls : Array Slot), fX12_mates_j72 (eS E) x0 x1 x3 s0 s1 mm = some y24 → wS E s mm H locs → lv_has ls 5 [(0, .ref x0), (1, .int x1), (3, .int x3)] → W p l e R s m args below meth c H locs 0 0 Q (F0 m 72 ls [.int s1, .int s0]) := by
      intro x3 s0 s1 H locs ls hf hS hl
      unfold fX12_mates_j72 at hf
      refine lv_ior hx hb dX12_mates_72 ?_
      refine lv_topi (fun x2_8 e1 => ?_)
      have hf := lt1_n e1 hf
      refine lv_istore_n (lv' := [(2, .int x2_8), (0, .ref x0), (1, .int x1), (3, .int x3)]) hx hb dX12_mates_73 rfl hl (by decide) rfl (fun ls hl => ?_)
      obtain ⟨x3_9, e1⟩ : ∃ z : Int32, z = x3 + 1 := ⟨_, rfl⟩
      have hf := lt1_n e1 hf
      refine lv_iinc (v := x3_9) (lv' := [(3, .int x3_9), (2, .int x2_8), (0, .ref x0), (1, .int x1)]) hx hb dX12_mates_74 hl (k := 3) rfl (by rw [e1]; rfl) (by decide) rfl (fun ls hl => ?_)
      refine lv_goto (tgt := 24) hx hb dX12_mates_77 (by decide) ?_
      exact hyL24 _ (Option.some.inj hf).symm H locs ls hS (lv_sub hl [2, 3, 1, 0] rfl)
    have hj71 : ∀ (x3 : Int32) (s0 : Int32) (H : Heap) (locs : List Loc) (ls : Array Slot), fX12_mates_j71 (eS E) x0 x1 x3 s0 mm = some y24 → wS E s mm H locs → lv_has ls 5 [(0, .ref x0), (1, .int x1), (3, .int x3)] → W p l e R s m args below meth c H locs 0 0 Q (F0 m 71 ls [.int s0]) := by
      intro x3 s0 H locs ls hf hS hl
      unfold fX12_mates_j71 at hf
      refine lv_iconst (v := 0) hx hb dX12_mates_71 (by decide) ?_
      exact hj72 x3 s0 0 H locs ls hf hS hl
    refine lv_iload_n hx hb dX12_mates_24 rfl (lv_at hl 3 rfl) ?_
    refine lv_aload_n hx hb dX12_mates_25 rfl (lv_at hl 0 rfl) ?_
    obtain ⟨v10, h1, hf⟩ := bs hf
    refine am_gi X hS fl_X12_150 rfl h1 dX12_mates_26 ?_
    refine lv_icmp_ge (tgt := 80) hx hb dX12_mates_29 (by decide) (fun q11 => ?_) (fun q11 => ?_)
    · have hf := ifp hf q11
      obtain rfl : x2 = ex24 := hyR24 _ (Option.some.inj hf).symm
      exact hj80 x2 mm H locs ls hk24 hS (lv_sub hl [2] rfl)
    · have hf := ifn hf q11
      refine lv_iconst (v := 1) hx hb dX12_mates_32 (by decide) ?_
      refine lv_iload_n hx hb dX12_mates_33 rfl (lv_at hl 1 rfl) ?_
      refine lv_ishl hx hb dX12_mates_34 ?_
      refine lv_iconst (v := 1) hx hb dX12_mates_35 (by decide) ?_
      refine lv_iload_n hx hb dX12_mates_36 rfl (lv_at hl 3 rfl) ?_
      refine lv_ishl hx hb dX12_mates_37 ?_
      refine lv_ior hx hb dX12_mates_38 ?_
      refine lv_topi (fun x4_12 e1 => ?_)
      have hf := lt1_n e1 hf
      refine lv_istore (lv' := [(4, .int x4_12), (0, .ref x0), (1, .int x1), (2, .int x2), (3, .int x3)]) hx hb dX12_mates_39 hl (by decide) rfl (fun ls hl => ?_)
      refine lv_iload_n hx hb dX12_mates_41 rfl (lv_at hl 3 rfl) ?_
      refine lv_iload_n hx hb dX12_mates_42 rfl (lv_at hl 4 rfl) ?_
      refine lv_iload_n hx hb dX12_mates_43 rfl (lv_at hl 2 rfl) ?_
      refine lv_icmp_eq (tgt := 71) hx hb dX12_mates_44 (by decide) (fun q13 => ?_) (fun q13 => ?_)
      · have hf := ifp hf q13
        exact hj71 x3 x2 H locs ls hf hS (lv_sub hl [1, 2, 4] rfl)
      · have hf := ifn hf q13
        refine lv_aload_n hx hb dX12_mates_47 rfl (lv_at hl 1 rfl) ?_
        refine lv_iload hx hb dX12_mates_48 (lv_at hl 0 rfl) ?_
        obtain ⟨u0, h0, hf⟩ := bs hf
        obtain ⟨_, hrc⟩ := isO_n h0
        obtain ⟨v14, h1, hf⟩ := bs hf
        refine am_endi hS (am_runV (As := [.int x4_12]) X (hml.trans hl.1.symm) hS (cX12_spreadOf_ok (l := l) (E := E) h1) mv_X12_398 hrc rfl ⟨Nat.le_trans (by decide) hR.1, Nat.le_trans (by decide) hR.2⟩ ⟨Nat.zero_le _, Nat.zero_le _⟩ rfl rfl (Nat.le_of_ble_eq_true rfl) dX12_mates_50) (fun H locs hS => ?_)
        refine lv_if_ne (tgt := 71) hx hb dX12_mates_53 (by decide) (fun q15 => ?_) (fun q15 => ?_)
        · have hf := ifn hf q15
          exact hj71 x3 x2 H locs ls hf hS (lv_sub hl [1, 2, 4] rfl)
        · have hf := ifp hf q15
          refine lv_aload_n hx hb dX12_mates_56 rfl (lv_at hl 1 rfl) ?_
          refine lv_iload hx hb dX12_mates_57 (lv_at hl 0 rfl) ?_
          obtain ⟨u0, h0, hf⟩ := bs hf
          obtain ⟨_, hrc⟩ := isO_n h0
          obtain ⟨v16, h1, hf⟩ := bs hf
          refine am_endi hS (am_runV (As := [.int x4_12]) X (hml.trans hl.1.symm) hS (cX12_withinAll_ok (l := l) (E := E) h1) mv_X12_401 hrc rfl ⟨Nat.le_trans (by decide) hR.1, Nat.le_trans (by decide) hR.2⟩ ⟨Nat.zero_le _, Nat.zero_le _⟩ rfl rfl (Nat.le_of_ble_eq_true rfl) dX12_mates_59) (fun H locs hS => ?_)
          refine lv_if_le (tgt := 71) hx hb dX12_mates_62 (by decide) (fun q17 => ?_) (fun q17 => ?_)
          · have hf := ifp hf q17
            exact hj71 x3 x2 H locs ls hf hS (lv_sub hl [1, 2, 4] rfl)
          · have hf := ifn hf q17
            refine lv_iconst (v := 1) hx hb dX12_mates_65 (by decide) ?_
            refine lv_iload_n hx hb dX12_mates_66 rfl (lv_at hl 4 rfl) ?_
            refine lv_ishl hx hb dX12_mates_67 ?_
            refine lv_goto (tgt := 72) hx hb dX12_mates_68 (by decide) ?_
            exact hj72 x3 x2 (1 <<< (x3 &&& 31)) H locs ls hf hS (lv_sub hl [1, 2, 4] rfl)
  · have hf := ifp hf q4
    refine lv_iconst (v := 0) hx hb dX12_mates_14 (by decide) ?_
    cases hf
    exact hret _ _ _ _ rfl dX12_mates_15 hS
set_option maxRecDepth 100000 in
theorem cX12_mates_ok {l : Launch} {E : Ev} {x0 : Nat} {x1 : Int32} {mm : Mem} {r : Int32} {mm1 : Mem} (hf : fX12_mates (eS E) x0 x1 mm = some (r, mm1)) : CtI l yX12_mates cX12_mates 5 (some .int) 3 68 E [.ref x0, .int x1] mm r mm1 := by
  refine Met.ofW (cc := cX12_mates) (maxL := 5) (ret := (some .int)) (by decide) rfl ?_
  intro p e s m args below meth c s₁ B hml hv
  obtain ⟨rfl, X, hS, hr, hlocks⟩ := am_in B hv
  refine am_entry (Nat.le_of_ble_eq_true rfl) (fun ls hl => ?_)
  exact wX12_mates X hml ⟨Nat.le_refl _, Nat.le_refl _⟩ hf (fun pc H locs ls hn hd hS => am_ri X hS hr hn hd hlocks) _ _ ls hS hl
set_option maxHeartbeats 4000000 in
set_option maxRecDepth 100000 in
theorem wX12_first {p : Program} {l : Launch} {e : Env} {R : Room} {s : State} {m : MethodId} {args : Array Value} {below : List Frame} {meth : Method} {c : Code} {Q : State → Prop} {E : Ev} (X : Cx p s m args c cX12_first RX12 E) (hml : c.maxLocals = 4) (hR : 2 ≤ R.frames ∧ 45 ≤ R.locals) {x0 : Nat} {x1 : Int32} {mm : Mem} {r : Int32} {mm1 : Mem} (hf : fX12_first (eS E) x0 x1 mm = some (r, mm1)) (hret : ∀ (pc : Nat) (H : Heap) (locs : List Loc) (ls : Array Slot), narrow .int (.int r) = .int r → decode cX12_first pc = .ok (.ireturn, 1) → wS E s mm1 H locs → W p l e R s m args below meth c H locs 0 0 Q (F0 m pc ls [.int r])) : ∀ (H : Heap) (locs : List Loc) (ls : Array Slot), wS E s mm H locs → lv_has ls 4 [(0, .ref x0), (1, .int x1)] → W p l e R s m args below meth c H locs 0 0 Q (F0 m 0 ls []) := by
  have hx := X.1
  have hb := X.2.1
  unfold fX12_first at hf
  have hj81 : ∀ (x2 : Int32) (mm : Mem) (H : Heap) (locs : List Loc) (ls : Array Slot), fX12_first_j81 (eS E) x2 mm = some (r, mm1) → wS E s mm H locs → lv_has ls 4 [(2, .int x2)] → W p l e R s m args below meth c H locs 0 0 Q (F0 m 81 ls []) := by
    intro x2 mm H locs ls hf hS hl
    unfold fX12_first_j81 at hf
    refine lv_iload_n hx hb dX12_first_81 rfl (lv_at hl 0 rfl) ?_
    cases hf
    exact hret _ _ _ _ rfl dX12_first_82 hS
  intro H locs ls hS hl
  refine lv_aload_n hx hb dX12_first_0 rfl (lv_at hl 0 rfl) ?_
  refine lv_iconst (v := 0) hx hb dX12_first_1 (by decide) ?_
  obtain ⟨m1, h1, hf⟩ := bs hf
  refine am_pi X hS fp_X12_3 rfl h1 dX12_first_2 (fun H locs hS => ?_)
  refine lv_aload_n hx hb dX12_first_5 rfl (lv_at hl 0 rfl) ?_
  refine lv_iload_n hx hb dX12_first_6 rfl (lv_at hl 1 rfl) ?_
  refine lv_iconst (v := 1) hx hb dX12_first_7 (by decide) ?_
  obtain ⟨u0, h0, hf⟩ := bs hf
  obtain ⟨_, hrc⟩ := isO_n h0
  obtain ⟨v2, m3, h1, hf⟩ := bs2 hf
  refine am_endi hS (am_runV (As := [.int x1, .int 1]) X (hml.trans hl.1.symm) hS (cX12_isFellow_ok (l := l) (E := E) h1) mv_X12_377 hrc rfl ⟨Nat.le_trans (by decide) hR.1, Nat.le_trans (by decide) hR.2⟩ ⟨Nat.zero_le _, Nat.zero_le _⟩ rfl rfl (Nat.le_of_ble_eq_true rfl) dX12_first_8) (fun H locs hS => ?_)
  refine lv_if_ne (tgt := 16) hx hb dX12_first_11 (by decide) (fun q4 => ?_) (fun q4 => ?_)
  · have hf := ifn hf q4
    refine lv_iconst (v := (-1)) hx hb dX12_first_16 (by decide) ?_
    refine lv_topi (fun x2_5 e1 => ?_)
    have hf := lt1_n e1 hf
    refine lv_istore_n (lv' := [(2, .int x2_5), (0, .ref x0), (1, .int x1)]) hx hb dX12_first_17 rfl hl (by decide) rfl (fun ls hl => ?_)
    refine lv_iconst (v := 0) hx hb dX12_first_18 (by decide) ?_
    refine lv_topi (fun x3_6 e1 => ?_)
    have hf := lt1_n e1 hf
    refine lv_istore_n (lv' := [(3, .int x3_6), (2, .int x2_5), (0, .ref x0), (1, .int x1)]) hx hb dX12_first_19 rfl hl (by decide) rfl (fun ls hl => ?_)
    obtain ⟨ex20, hl20, hk20⟩ := bs hf
    refine loop_W (P := fun st => ∀ (H : Heap) (locs : List Loc) (ls : Array Slot), wS E s m3 H locs → lv_has ls 4 [(0, .ref x0), (1, .int x1), (2, .int st.1), (3, .int st.2)] → W p l e R s m args below meth c H locs 0 0 Q (F0 m 20 ls [])) (ex := ex20) ?_ FU _ hl20 H locs ls hS (lv_sub hl [2, 3, 1, 0] rfl)
    intro st y20 hf hyL20 hyR20 H locs ls hS hl
    obtain ⟨x2, x3⟩ := st
    obtain ⟨mm, rfl⟩ : ∃ z, z = m3 := ⟨_, rfl⟩
    have hf : fX12_first_b20 (eS E) x0 x1 x2 x3 mm = some y20 := hf
    have hS : wS E s mm H locs := hS
    have hl : lv_has ls 4 [(0, .ref x0), (1, .int x1), (2, .int x2), (3, .int x3)] := hl
    unfold fX12_first_b20 at hf
    have hj75 : ∀ (x2 : Int32) (x3 : Int32) (H : Heap) (locs : List Loc) (ls : Array Slot), fX12_first_j75 (eS E) x0 x1 x2 x3 mm = some y20 → wS E s mm H locs → lv_has ls 4 [(0, .ref x0), (1, .int x1), (2, .int x2), (3, .int x3)] → W p l e R s m args below meth c H locs 0 0 Q (F0 m 75 ls []) := by
      intro x2 x3 H locs ls hf hS hl
      unfold fX12_first_j75 at hf
      obtain ⟨x3_7, e1⟩ : ∃ z : Int32, z = x3 + 1 := ⟨_, rfl⟩
      have hf := lt1_n e1 hf
      refine lv_iinc (v := x3_7) (lv' := [(3, .int x3_7), (0, .ref x0), (1, .int x1), (2, .int x2)]) hx hb dX12_first_75 hl (k := 3) rfl (by rw [e1]; rfl) (by decide) rfl (fun ls hl => ?_)
      refine lv_goto (tgt := 20) hx hb dX12_first_78 (by decide) ?_
      exact hyL20 _ (Option.some.inj hf).symm H locs ls hS (lv_sub hl [1, 2, 3, 0] rfl)
    have hj73 : ∀ (x3 : Int32) (H : Heap) (locs : List Loc) (ls : Array Slot), fX12_first_j73 (eS E) x0 x1 x3 mm = some y20 → wS E s mm H locs → lv_has ls 4 [(0, .ref x0), (1, .int x1), (3, .int x3)] → W p l e R s m args below meth c H locs 0 0 Q (F0 m 73 ls []) := by
      intro x3 H locs ls hf hS hl
      unfold fX12_first_j73 at hf
      refine lv_iload_n hx hb dX12_first_73 rfl (lv_at hl 2 rfl) ?_
      refine lv_topi (fun x2_8 e1 => ?_)
      have hf := lt1_n e1 hf
      refine lv_istore_n (lv' := [(2, .int x2_8), (0, .ref x0), (1, .int x1), (3, .int x3)]) hx hb dX12_first_74 rfl hl (by decide) rfl (fun ls hl => ?_)
      exact hj75 x2_8 x3 H locs ls hf hS (lv_sub hl [1, 2, 0, 3] rfl)
    refine lv_iload_n hx hb dX12_first_20 rfl (lv_at hl 3 rfl) ?_
    refine lv_bipush (v := 7) hx hb dX12_first_21 (by decide) ?_
    refine lv_icmp_ge (tgt := 81) hx hb dX12_first_23 (by decide) (fun q9 => ?_) (fun q9 => ?_)
    · have hf := ifp hf q9
      obtain rfl : x2 = ex20 := hyR20 _ (Option.some.inj hf).symm
      exact hj81 x2 mm H locs ls hk20 hS (lv_sub hl [2] rfl)
    · have hf := ifn hf q9
      refine lv_aload_n hx hb dX12_first_26 rfl (lv_at hl 0 rfl) ?_
      obtain ⟨a10, h1, hf⟩ := bs hf
      refine am_gr X hS fl_X12_59 rfl h1 dX12_first_27 ?_
      refine lv_bipush (v := 42) hx hb dX12_first_30 (by decide) ?_
      refine lv_iload_n hx hb dX12_first_32 rfl (lv_at hl 1 rfl) ?_
      refine lv_iload_n hx hb dX12_first_33 rfl (lv_at hl 3 rfl) ?_
      obtain ⟨v11, h1, hf⟩ := bs hf
      refine am_endi hS (am_runS (As := [.int 42, .int x1, .int x3]) X (hml.trans hl.1.symm) hS (cX12_in_ok (l := l) (E := E) h1) ms_X12_319 ⟨Nat.le_trans (by decide) hR.1, Nat.le_trans (by decide) hR.2⟩ ⟨Nat.zero_le _, Nat.zero_le _⟩ rfl rfl (Nat.le_of_ble_eq_true rfl) dX12_first_34) (fun H locs hS => ?_)
      obtain ⟨v12, h1, hf⟩ := bs hf
      refine am_ald X hS h1 dX12_first_37 ?_
      refine lv_if_le (tgt := 75) hx hb dX12_first_38 (by decide) (fun q13 => ?_) (fun q13 => ?_)
      · have hf := ifp hf q13
        exact hj75 x2 x3 H locs ls hf hS hl
      · have hf := ifn hf q13
        refine lv_iload_n hx hb dX12_first_41 rfl (lv_at hl 2 rfl) ?_
        refine lv_iconst (v := (-1)) hx hb dX12_first_42 (by decide) ?_
        refine lv_icmp_eq (tgt := 73) hx hb dX12_first_43 (by decide) (fun q14 => ?_) (fun q14 => ?_)
        · have hf := ifp hf q14
          exact hj73 x3 H locs ls hf hS (lv_sub hl [0, 1, 3] rfl)
        · have hf := ifn hf q14
          refine lv_aload_n hx hb dX12_first_46 rfl (lv_at hl 0 rfl) ?_
          obtain ⟨a15, h1, hf⟩ := bs hf
          refine am_gr X hS fl_X12_59 rfl h1 dX12_first_47 ?_
          refine lv_bipush (v := 84) hx hb dX12_first_50 (by decide) ?_
          refine lv_iload_n hx hb dX12_first_52 rfl (lv_at hl 1 rfl) ?_
          refine lv_iload_n hx hb dX12_first_53 rfl (lv_at hl 3 rfl) ?_
          obtain ⟨v16, h1, hf⟩ := bs hf
          refine am_endi hS (am_runS (As := [.int 84, .int x1, .int x3]) X (hml.trans hl.1.symm) hS (cX12_in_ok (l := l) (E := E) h1) ms_X12_319 ⟨Nat.le_trans (by decide) hR.1, Nat.le_trans (by decide) hR.2⟩ ⟨Nat.zero_le _, Nat.zero_le _⟩ rfl rfl (Nat.le_of_ble_eq_true rfl) dX12_first_54) (fun H locs hS => ?_)
          obtain ⟨v17, h1, hf⟩ := bs hf
          refine am_ald X hS h1 dX12_first_57 ?_
          refine lv_aload_n hx hb dX12_first_58 rfl (lv_at hl 0 rfl) ?_
          obtain ⟨a18, h1, hf⟩ := bs hf
          refine am_gr X hS fl_X12_59 rfl h1 dX12_first_59 ?_
          refine lv_bipush (v := 84) hx hb dX12_first_62 (by decide) ?_
          refine lv_iload_n hx hb dX12_first_64 rfl (lv_at hl 1 rfl) ?_
          refine lv_iload_n hx hb dX12_first_65 rfl (lv_at hl 2 rfl) ?_
          obtain ⟨v19, h1, hf⟩ := bs hf
          refine am_endi hS (am_runS (As := [.int 84, .int x1, .int x2]) X (hml.trans hl.1.symm) hS (cX12_in_ok (l := l) (E := E) h1) ms_X12_319 ⟨Nat.le_trans (by decide) hR.1, Nat.le_trans (by decide) hR.2⟩ ⟨Nat.zero_le _, Nat.zero_le _⟩ rfl rfl (Nat.le_of_ble_eq_true rfl) dX12_first_66) (fun H locs hS => ?_)
          obtain ⟨v20, h1, hf⟩ := bs hf
          refine am_ald X hS h1 dX12_first_69 ?_
          refine lv_icmp_ge (tgt := 75) hx hb dX12_first_70 (by decide) (fun q21 => ?_) (fun q21 => ?_)
          · have hf := ifp hf q21
            exact hj75 x2 x3 H locs ls hf hS hl
          · have hf := ifn hf q21
            exact hj73 x3 H locs ls hf hS (lv_sub hl [0, 1, 3] rfl)
  · have hf := ifp hf q4
    refine lv_iconst (v := 0) hx hb dX12_first_14 (by decide) ?_
    cases hf
    exact hret _ _ _ _ rfl dX12_first_15 hS
set_option maxRecDepth 100000 in
theorem cX12_first_ok {l : Launch} {E : Ev} {x0 : Nat} {x1 : Int32} {mm : Mem} {r : Int32} {mm1 : Mem} (hf : fX12_first (eS E) x0 x1 mm = some (r, mm1)) : CtI l yX12_first cX12_first 4 (some .int) 2 45 E [.ref x0, .int x1] mm r mm1 := by
  refine Met.ofW (cc := cX12_first) (maxL := 4) (ret := (some .int)) (by decide) rfl ?_
  intro p e s m args below meth c s₁ B hml hv
  obtain ⟨rfl, X, hS, hr, hlocks⟩ := am_in B hv
  refine am_entry (Nat.le_of_ble_eq_true rfl) (fun ls hl => ?_)
  exact wX12_first X hml ⟨Nat.le_refl _, Nat.le_refl _⟩ hf (fun pc H locs ls hn hd hS => am_ri X hS hr hn hd hlocks) _ _ ls hS hl
set_option maxHeartbeats 4000000 in
set_option maxRecDepth 100000 in
theorem wX12_halo {p : Program} {l : Launch} {e : Env} {R : Room} {s : State} {m : MethodId} {args : Array Value} {below : List Frame} {meth : Method} {c : Code} {Q : State → Prop} {E : Ev} (X : Cx p s m args c cX12_halo RX12 E) (hml : c.maxLocals = 5) (hR : 1 ≤ R.frames ∧ 23 ≤ R.locals) {x0 : Nat} {x1 : Int32} {x2 : Int32} {mm : Mem} {r : Int32} {mm1 : Mem} (hf : fX12_halo (eS E) x0 x1 x2 mm = some (r, mm1)) (hret : ∀ (pc : Nat) (H : Heap) (locs : List Loc) (ls : Array Slot), narrow .int (.int r) = .int r → decode cX12_halo pc = .ok (.ireturn, 1) → wS E s mm1 H locs → W p l e R s m args below meth c H locs 0 0 Q (F0 m pc ls [.int r])) : ∀ (H : Heap) (locs : List Loc) (ls : Array Slot), wS E s mm H locs → lv_has ls 5 [(0, .ref x0), (1, .int x1), (2, .int x2)] → W p l e R s m args below meth c H locs 0 0 Q (F0 m 0 ls []) := by
  have hx := X.1
  have hb := X.2.1
  unfold fX12_halo at hf
  have hj99 : ∀ (x3 : Int32) (mm : Mem) (H : Heap) (locs : List Loc) (ls : Array Slot), fX12_halo_j99 (eS E) x3 mm = some (r, mm1) → wS E s mm H locs → lv_has ls 5 [(3, .int x3)] → W p l e R s m args below meth c H locs 0 0 Q (F0 m 99 ls []) := by
    intro x3 mm H locs ls hf hS hl
    unfold fX12_halo_j99 at hf
    refine lv_iload_n hx hb dX12_halo_99 rfl (lv_at hl 0 rfl) ?_
    cases hf
    exact hret _ _ _ _ rfl dX12_halo_100 hS
  have hj35 : ∀ (x0 : Nat) (x1 : Int32) (x2 : Int32) (s0 : Nat) (s1 : Int32) (mm : Mem) (H : Heap) (locs : List Loc) (ls : Array Slot), fX12_halo_j35 (eS E) x0 x1 x2 s0 s1 mm = some (r, mm1) → wS E s mm H locs → lv_has ls 5 [(0, .ref x0), (1, .int x1), (2, .int x2)] → W p l e R s m args below meth c H locs 0 0 Q (F0 m 35 ls [.int s1, .ref s0]) := by
    intro x0 x1 x2 s0 s1 mm H locs ls hf hS hl
    unfold fX12_halo_j35 at hf
    refine lv_iconst (v := 1) hx hb dX12_halo_35 (by decide) ?_
    refine lv_iconst (v := 1) hx hb dX12_halo_36 (by decide) ?_
    obtain ⟨u0, h0, hf⟩ := bs hf
    obtain ⟨_, hrc⟩ := isO_n h0
    obtain ⟨v1, m2, h1, hf⟩ := bs2 hf
    refine am_endi hS (am_runV (As := [.int s1, .int 1, .int 1]) X (hml.trans hl.1.symm) hS (cX12_may_ok (l := l) (E := E) h1) mv_X12_190 hrc rfl ⟨Nat.le_trans (by decide) hR.1, Nat.le_trans (by decide) hR.2⟩ ⟨Nat.zero_le _, Nat.zero_le _⟩ rfl rfl (Nat.le_of_ble_eq_true rfl) dX12_halo_37) (fun H locs hS => ?_)
    refine lv_if_ne (tgt := 45) hx hb dX12_halo_40 (by decide) (fun q3 => ?_) (fun q3 => ?_)
    · have hf := ifn hf q3
      refine lv_iconst (v := 0) hx hb dX12_halo_45 (by decide) ?_
      refine lv_topi (fun x3_4 e1 => ?_)
      have hf := lt1_n e1 hf
      refine lv_istore_n (lv' := [(3, .int x3_4), (0, .ref x0), (1, .int x1), (2, .int x2)]) hx hb dX12_halo_46 rfl hl (by decide) rfl (fun ls hl => ?_)
      refine lv_iconst (v := 0) hx hb dX12_halo_47 (by decide) ?_
      refine lv_topi (fun x4_5 e1 => ?_)
      have hf := lt1_n e1 hf
      refine lv_istore (lv' := [(4, .int x4_5), (3, .int x3_4), (0, .ref x0), (1, .int x1), (2, .int x2)]) hx hb dX12_halo_48 hl (by decide) rfl (fun ls hl => ?_)
      obtain ⟨ex50, hl50, hk50⟩ := bs hf
      refine loop_W (P := fun st => ∀ (H : Heap) (locs : List Loc) (ls : Array Slot), wS E s m2 H locs → lv_has ls 5 [(0, .ref x0), (1, .int x1), (2, .int x2), (3, .int st.1), (4, .int st.2)] → W p l e R s m args below meth c H locs 0 0 Q (F0 m 50 ls [])) (ex := ex50) ?_ FU _ hl50 H locs ls hS (lv_sub hl [2, 3, 4, 1, 0] rfl)
      intro st y50 hf hyL50 hyR50 H locs ls hS hl
      obtain ⟨x3, x4⟩ := st
      obtain ⟨mm, rfl⟩ : ∃ z, z = m2 := ⟨_, rfl⟩
      have hf : fX12_halo_b50 (eS E) x0 x1 x2 x3 x4 mm = some y50 := hf
      have hS : wS E s mm H locs := hS
      have hl : lv_has ls 5 [(0, .ref x0), (1, .int x1), (2, .int x2), (3, .int x3), (4, .int x4)] := hl
      unfold fX12_halo_b50 at hf
      have hj91 : ∀ (x4 : Int32) (s0 : Int32) (s1 : Int32) (H : Heap) (locs : List Loc) (ls : Array Slot), fX12_halo_j91 (eS E) x0 x1 x2 x4 s0 s1 mm = some y50 → wS E s mm H locs → lv_has ls 5 [(0, .ref x0), (1, .int x1), (2, .int x2), (4, .int x4)] → W p l e R s m args below meth c H locs 0 0 Q (F0 m 91 ls [.int s1, .int s0]) := by
        intro x4 s0 s1 H locs ls hf hS hl
        unfold fX12_halo_j91 at hf
        refine lv_iadd hx hb dX12_halo_91 ?_
        refine lv_topi (fun x3_6 e1 => ?_)
        have hf := lt1_n e1 hf
        refine lv_istore_n (lv' := [(3, .int x3_6), (0, .ref x0), (1, .int x1), (2, .int x2), (4, .int x4)]) hx hb dX12_halo_92 rfl hl (by decide) rfl (fun ls hl => ?_)
        obtain ⟨x4_7, e1⟩ : ∃ z : Int32, z = x4 + 1 := ⟨_, rfl⟩
        have hf := lt1_n e1 hf
        refine lv_iinc (v := x4_7) (lv' := [(4, .int x4_7), (3, .int x3_6), (0, .ref x0), (1, .int x1), (2, .int x2)]) hx hb dX12_halo_93 hl (k := 4) rfl (by rw [e1]; rfl) (by decide) rfl (fun ls hl => ?_)
        refine lv_goto (tgt := 50) hx hb dX12_halo_96 (by decide) ?_
        exact hyL50 _ (Option.some.inj hf).symm H locs ls hS (lv_sub hl [2, 3, 4, 1, 0] rfl)
      refine lv_iload hx hb dX12_halo_50 (lv_at hl 4 rfl) ?_
      refine lv_bipush (v := 42) hx hb dX12_halo_52 (by decide) ?_
      refine lv_icmp_ge (tgt := 99) hx hb dX12_halo_54 (by decide) (fun q8 => ?_) (fun q8 => ?_)
      · have hf := ifp hf q8
        obtain rfl : x3 = ex50 := hyR50 _ (Option.some.inj hf).symm
        exact hj99 x3 mm H locs ls hk50 hS (lv_sub hl [3] rfl)
      · have hf := ifn hf q8
        refine lv_iload_n hx hb dX12_halo_57 rfl (lv_at hl 3 rfl) ?_
        refine lv_aload_n hx hb dX12_halo_58 rfl (lv_at hl 0 rfl) ?_
        obtain ⟨a9, h1, hf⟩ := bs hf
        refine am_gr X hS fl_X12_59 rfl h1 dX12_halo_59 ?_
        refine lv_bipush (v := 84) hx hb dX12_halo_62 (by decide) ?_
        refine lv_iload hx hb dX12_halo_64 (lv_at hl 4 rfl) ?_
        refine lv_iadd hx hb dX12_halo_66 ?_
        obtain ⟨v10, h1, hf⟩ := bs hf
        refine am_ald X hS h1 dX12_halo_67 ?_
        refine lv_iload_n hx hb dX12_halo_68 rfl (lv_at hl 1 rfl) ?_
        refine lv_isub hx hb dX12_halo_69 ?_
        obtain ⟨v11, h1, hf⟩ := bs hf
        refine am_endi hS (am_runS (As := [.int (v10 - x1)]) X (hml.trans hl.1.symm) hS (cX12_size_ok (l := l) (E := E) h1) ms_X12_407 ⟨Nat.le_trans (by decide) hR.1, Nat.le_trans (by decide) hR.2⟩ ⟨Nat.zero_le _, Nat.zero_le _⟩ rfl rfl (Nat.le_of_ble_eq_true rfl) dX12_halo_70) (fun H locs hS => ?_)
        refine lv_iload_n hx hb dX12_halo_73 rfl (lv_at hl 2 rfl) ?_
        refine lv_icmp_gt (tgt := 90) hx hb dX12_halo_74 (by decide) (fun q12 => ?_) (fun q12 => ?_)
        · have hf := ifp hf q12
          refine lv_iconst (v := 0) hx hb dX12_halo_90 (by decide) ?_
          exact hj91 x4 x3 0 H locs ls hf hS (lv_sub hl [0, 1, 2, 4] rfl)
        · have hf := ifn hf q12
          refine lv_aload_n hx hb dX12_halo_77 rfl (lv_at hl 0 rfl) ?_
          obtain ⟨a13, h1, hf⟩ := bs hf
          refine am_gr X hS fl_X12_59 rfl h1 dX12_halo_78 ?_
          refine lv_bipush (v := 42) hx hb dX12_halo_81 (by decide) ?_
          refine lv_iload hx hb dX12_halo_83 (lv_at hl 4 rfl) ?_
          refine lv_iadd hx hb dX12_halo_85 ?_
          obtain ⟨v14, h1, hf⟩ := bs hf
          refine am_ald X hS h1 dX12_halo_86 ?_
          refine lv_goto (tgt := 91) hx hb dX12_halo_87 (by decide) ?_
          exact hj91 x4 x3 v14 H locs ls hf hS (lv_sub hl [0, 1, 2, 4] rfl)
    · have hf := ifp hf q3
      refine lv_iconst (v := 0) hx hb dX12_halo_43 (by decide) ?_
      cases hf
      exact hret _ _ _ _ rfl dX12_halo_44 hS
  have hj34 : ∀ (x0 : Nat) (x1 : Int32) (x2 : Int32) (s0 : Nat) (mm : Mem) (H : Heap) (locs : List Loc) (ls : Array Slot), fX12_halo_j34 (eS E) x0 x1 x2 s0 mm = some (r, mm1) → wS E s mm H locs → lv_has ls 5 [(0, .ref x0), (1, .int x1), (2, .int x2)] → W p l e R s m args below meth c H locs 0 0 Q (F0 m 34 ls [.ref s0]) := by
    intro x0 x1 x2 s0 mm H locs ls hf hS hl
    unfold fX12_halo_j34 at hf
    refine lv_iconst (v := 0) hx hb dX12_halo_34 (by decide) ?_
    exact hj35 x0 x1 x2 s0 0 mm H locs ls hf hS hl
  intro H locs ls hS hl
  refine lv_aload_n hx hb dX12_halo_0 rfl (lv_at hl 0 rfl) ?_
  refine lv_iconst (v := 0) hx hb dX12_halo_1 (by decide) ?_
  obtain ⟨m15, h1, hf⟩ := bs hf
  refine am_pi X hS fp_X12_3 rfl h1 dX12_halo_2 (fun H locs hS => ?_)
  refine lv_aload_n hx hb dX12_halo_5 rfl (lv_at hl 0 rfl) ?_
  refine lv_iload_n hx hb dX12_halo_6 rfl (lv_at hl 1 rfl) ?_
  refine lv_iconst (v := 0) hx hb dX12_halo_7 (by decide) ?_
  refine lv_aload_n hx hb dX12_halo_8 rfl (lv_at hl 0 rfl) ?_
  obtain ⟨v16, h1, hf⟩ := bs hf
  refine am_gi X hS fl_X12_156 rfl h1 dX12_halo_9 ?_
  refine lv_iconst (v := 1) hx hb dX12_halo_12 (by decide) ?_
  refine lv_isub hx hb dX12_halo_13 ?_
  obtain ⟨v17, h1, hf⟩ := bs hf
  refine am_endi hS (am_runS (As := [.int x1, .int 0, .int (v16 - 1)]) X (hml.trans hl.1.symm) hS (cX12_within_ok (l := l) (E := E) h1) ms_X12_368 ⟨Nat.le_trans (by decide) hR.1, Nat.le_trans (by decide) hR.2⟩ ⟨Nat.zero_le _, Nat.zero_le _⟩ rfl rfl (Nat.le_of_ble_eq_true rfl) dX12_halo_14) (fun H locs hS => ?_)
  refine lv_if_eq (tgt := 34) hx hb dX12_halo_17 (by decide) (fun q18 => ?_) (fun q18 => ?_)
  · have hf := ifp hf q18
    exact hj34 x0 x1 x2 x0 m15 H locs ls hf hS hl
  · have hf := ifn hf q18
    refine lv_iload_n hx hb dX12_halo_20 rfl (lv_at hl 2 rfl) ?_
    refine lv_iconst (v := 0) hx hb dX12_halo_21 (by decide) ?_
    refine lv_bipush (v := 99) hx hb dX12_halo_22 (by decide) ?_
    obtain ⟨v19, h1, hf⟩ := bs hf
    refine am_endi hS (am_runS (As := [.int x2, .int 0, .int 99]) X (hml.trans hl.1.symm) hS (cX12_within_ok (l := l) (E := E) h1) ms_X12_368 ⟨Nat.le_trans (by decide) hR.1, Nat.le_trans (by decide) hR.2⟩ ⟨Nat.zero_le _, Nat.zero_le _⟩ rfl rfl (Nat.le_of_ble_eq_true rfl) dX12_halo_24) (fun H locs hS => ?_)
    refine lv_if_eq (tgt := 34) hx hb dX12_halo_27 (by decide) (fun q20 => ?_) (fun q20 => ?_)
    · have hf := ifp hf q20
      exact hj34 x0 x1 x2 x0 m15 H locs ls hf hS hl
    · have hf := ifn hf q20
      refine lv_iconst (v := 1) hx hb dX12_halo_30 (by decide) ?_
      refine lv_goto (tgt := 35) hx hb dX12_halo_31 (by decide) ?_
      exact hj35 x0 x1 x2 x0 1 m15 H locs ls hf hS hl
set_option maxRecDepth 100000 in
theorem cX12_halo_ok {l : Launch} {E : Ev} {x0 : Nat} {x1 : Int32} {x2 : Int32} {mm : Mem} {r : Int32} {mm1 : Mem} (hf : fX12_halo (eS E) x0 x1 x2 mm = some (r, mm1)) : CtI l yX12_halo cX12_halo 5 (some .int) 1 23 E [.ref x0, .int x1, .int x2] mm r mm1 := by
  refine Met.ofW (cc := cX12_halo) (maxL := 5) (ret := (some .int)) (by decide) rfl ?_
  intro p e s m args below meth c s₁ B hml hv
  obtain ⟨rfl, X, hS, hr, hlocks⟩ := am_in B hv
  refine am_entry (Nat.le_of_ble_eq_true rfl) (fun ls hl => ?_)
  exact wX12_halo X hml ⟨Nat.le_refl _, Nat.le_refl _⟩ hf (fun pc H locs ls hn hd hS => am_ri X hS hr hn hd hlocks) _ _ ls hS hl
set_option maxHeartbeats 4000000 in
set_option maxRecDepth 100000 in
theorem wX12_draws {p : Program} {l : Launch} {e : Env} {R : Room} {s : State} {m : MethodId} {args : Array Value} {below : List Frame} {meth : Method} {c : Code} {Q : State → Prop} {E : Ev} (X : Cx p s m args c cX12_draws RX12 E) (hml : c.maxLocals = 2) (hR : 0 ≤ R.frames ∧ 0 ≤ R.locals) {x0 : Nat} {x1 : Int32} {mm : Mem} {r : Int32} {mm1 : Mem} (hf : fX12_draws (eS E) x0 x1 mm = some (r, mm1)) (hret : ∀ (pc : Nat) (H : Heap) (locs : List Loc) (ls : Array Slot), narrow .int (.int r) = .int r → decode cX12_draws pc = .ok (.ireturn, 1) → wS E s mm1 H locs → W p l e R s m args below meth c H locs 0 0 Q (F0 m pc ls [.int r])) : ∀ (H : Heap) (locs : List Loc) (ls : Array Slot), wS E s mm H locs → lv_has ls 2 [(0, .ref x0), (1, .int x1)] → W p l e R s m args below meth c H locs 0 0 Q (F0 m 0 ls []) := by
  have hx := X.1
  have hb := X.2.1
  unfold fX12_draws at hf
  intro H locs ls hS hl
  refine lv_aload_n hx hb dX12_draws_0 rfl (lv_at hl 0 rfl) ?_
  refine lv_aload_n hx hb dX12_draws_1 rfl (lv_at hl 0 rfl) ?_
  obtain ⟨v1, h1, hf⟩ := bs hf
  refine am_gi X hS fl_X12_450 rfl h1 dX12_draws_2 ?_
  refine lv_ldcw (v := 1103515245) hx hb X.2.2.2.1 (X.2.2.1 _ (inBi 1968 (by decide +kernel))) dX12_draws_5 ?_
  refine lv_imul hx hb dX12_draws_8 ?_
  refine lv_sipush (v := 12345) hx hb dX12_draws_9 (by decide) ?_
  refine lv_iadd hx hb dX12_draws_12 ?_
  obtain ⟨m2, h1, hf⟩ := bs hf
  refine am_pi X hS fp_X12_450 rfl h1 dX12_draws_13 (fun H locs hS => ?_)
  refine lv_aload_n hx hb dX12_draws_16 rfl (lv_at hl 0 rfl) ?_
  obtain ⟨v3, h1, hf⟩ := bs hf
  refine am_gi X hS fl_X12_450 rfl h1 dX12_draws_17 ?_
  refine lv_bipush (v := 16) hx hb dX12_draws_20 (by decide) ?_
  refine lv_ishr hx hb dX12_draws_22 ?_
  refine lv_sipush (v := 32767) hx hb dX12_draws_23 (by decide) ?_
  refine lv_iand hx hb dX12_draws_26 ?_
  refine lv_iload_n hx hb dX12_draws_27 rfl (lv_at hl 1 rfl) ?_
  obtain ⟨v4, h1, hf⟩ := bs hf
  obtain ⟨h1, h2⟩ := rmI_n h1
  refine lv_irem hx hb dX12_draws_28 h1 ?_
  rw [h2]
  cases hf
  exact hret _ _ _ _ rfl dX12_draws_29 hS
set_option maxRecDepth 100000 in
theorem cX12_draws_ok {l : Launch} {E : Ev} {x0 : Nat} {x1 : Int32} {mm : Mem} {r : Int32} {mm1 : Mem} (hf : fX12_draws (eS E) x0 x1 mm = some (r, mm1)) : CtI l yX12_draws cX12_draws 2 (some .int) 0 0 E [.ref x0, .int x1] mm r mm1 := by
  refine Met.ofW (cc := cX12_draws) (maxL := 2) (ret := (some .int)) (by decide) rfl ?_
  intro p e s m args below meth c s₁ B hml hv
  obtain ⟨rfl, X, hS, hr, hlocks⟩ := am_in B hv
  refine am_entry (Nat.le_of_ble_eq_true rfl) (fun ls hl => ?_)
  exact wX12_draws X hml ⟨Nat.le_refl _, Nat.le_refl _⟩ hf (fun pc H locs ls hn hd hS => am_ri X hS hr hn hd hlocks) _ _ ls hS hl
set_option maxHeartbeats 4000000 in
set_option maxRecDepth 100000 in
theorem wX12_termGoes {p : Program} {l : Launch} {e : Env} {R : Room} {s : State} {m : MethodId} {args : Array Value} {below : List Frame} {meth : Method} {c : Code} {Q : State → Prop} {E : Ev} (X : Cx p s m args c cX12_termGoes RX12 E) (hml : c.maxLocals = 9) (hR : 7 ≤ R.frames ∧ 167 ≤ R.locals) {x0 : Nat} {x1 : Int32} {x2 : Int32} {x3 : Int32} {mm : Mem} {mm1 : Mem} (hf : fX12_termGoes (eS E) x0 x1 x2 x3 mm = some mm1) (hret : ∀ (pc : Nat) (H : Heap) (locs : List Loc) (ls : Array Slot), decode cX12_termGoes pc = .ok (.return_, 1) → wS E s mm1 H locs → W p l e R s m args below meth c H locs 0 0 Q (F0 m pc ls [])) : ∀ (H : Heap) (locs : List Loc) (ls : Array Slot), wS E s mm H locs → lv_has ls 9 [(0, .ref x0), (1, .int x1), (2, .int x2), (3, .int x3)] → W p l e R s m args below meth c H locs 0 0 Q (F0 m 0 ls []) := by
  have hx := X.1
  have hb := X.2.1
  unfold fX12_termGoes at hf
  have hj133 : ∀ (mm : Mem) (H : Heap) (locs : List Loc) (ls : Array Slot), fX12_termGoes_j133 (eS E) mm = some mm1 → wS E s mm H locs → lv_has ls 9 [] → W p l e R s m args below meth c H locs 0 0 Q (F0 m 133 ls []) := by
    intro mm H locs ls hf hS hl
    unfold fX12_termGoes_j133 at hf
    cases hf
    exact hret _ _ _ _ dX12_termGoes_133 hS
  intro H locs ls hS hl
  refine lv_aload_n hx hb dX12_termGoes_0 rfl (lv_at hl 0 rfl) ?_
  obtain ⟨u0, h0, hf⟩ := bs hf
  obtain ⟨_, hrc⟩ := isO_n h0
  obtain ⟨m1, h1, hf⟩ := bs hf
  refine am_endv hS (am_runV (As := []) X (hml.trans hl.1.symm) hS (cX12_take_ok (l := l) (E := E) h1) mv_X12_301 hrc rfl ⟨Nat.le_trans (by decide) hR.1, Nat.le_trans (by decide) hR.2⟩ ⟨Nat.zero_le _, Nat.zero_le _⟩ rfl rfl (Nat.le_of_ble_eq_true rfl) dX12_termGoes_1) (fun H locs hS => ?_)
  refine lv_aload_n hx hb dX12_termGoes_4 rfl (lv_at hl 0 rfl) ?_
  refine lv_iload_n hx hb dX12_termGoes_5 rfl (lv_at hl 1 rfl) ?_
  obtain ⟨m2, h1, hf⟩ := bs hf
  refine am_pi X hS fp_X12_450 rfl h1 dX12_termGoes_6 (fun H locs hS => ?_)
  refine lv_iconst (v := 0) hx hb dX12_termGoes_9 (by decide) ?_
  refine lv_topi (fun x4_3 e1 => ?_)
  have hf := lt1_n e1 hf
  refine lv_istore (lv' := [(4, .int x4_3), (0, .ref x0), (1, .int x1), (2, .int x2), (3, .int x3)]) hx hb dX12_termGoes_10 hl (by decide) rfl (fun ls hl => ?_)
  obtain ⟨ex12, hl12, hk12⟩ := bs hf
  refine loop_W (P := fun st => ∀ (H : Heap) (locs : List Loc) (ls : Array Slot), wS E s st.2 H locs → lv_has ls 9 [(0, .ref x0), (2, .int x2), (3, .int x3), (4, .int st.1)] → W p l e R s m args below meth c H locs 0 0 Q (F0 m 12 ls [])) (ex := ex12) ?_ FU _ hl12 H locs ls hS (lv_sub hl [1, 3, 4, 0] rfl)
  intro st y12 hf hyL12 hyR12 H locs ls hS hl
  obtain ⟨x4, mm⟩ := st
  have hf : fX12_termGoes_b12 (eS E) x0 x2 x3 x4 mm = some y12 := hf
  have hS : wS E s mm H locs := hS
  have hl : lv_has ls 9 [(0, .ref x0), (2, .int x2), (3, .int x3), (4, .int x4)] := hl
  unfold fX12_termGoes_b12 at hf
  have hj123 : ∀ (x4 : Int32) (mm : Mem) (H : Heap) (locs : List Loc) (ls : Array Slot), fX12_termGoes_j123 (eS E) x0 x2 x3 x4 mm = some y12 → wS E s mm H locs → lv_has ls 9 [(0, .ref x0), (2, .int x2), (3, .int x3), (4, .int x4)] → W p l e R s m args below meth c H locs 0 0 Q (F0 m 123 ls []) := by
    intro x4 mm H locs ls hf hS hl
    unfold fX12_termGoes_j123 at hf
    refine lv_aload_n hx hb dX12_termGoes_123 rfl (lv_at hl 0 rfl) ?_
    obtain ⟨u0, h0, hf⟩ := bs hf
    obtain ⟨_, hrc⟩ := isO_n h0
    obtain ⟨m4, h1, hf⟩ := bs hf
    refine am_endv hS (am_runV (As := []) X (hml.trans hl.1.symm) hS (cX12_passes_ok (l := l) (E := E) h1) mv_X12_359 hrc rfl ⟨Nat.le_trans (by decide) hR.1, Nat.le_trans (by decide) hR.2⟩ ⟨Nat.zero_le _, Nat.zero_le _⟩ rfl rfl (Nat.le_of_ble_eq_true rfl) dX12_termGoes_124) (fun H locs hS => ?_)
    obtain ⟨x4_5, e1⟩ : ∃ z : Int32, z = x4 + 1 := ⟨_, rfl⟩
    have hf := lt1_n e1 hf
    refine lv_iinc (v := x4_5) (lv' := [(4, .int x4_5), (0, .ref x0), (2, .int x2), (3, .int x3)]) hx hb dX12_termGoes_127 hl (k := 3) rfl (by rw [e1]; rfl) (by decide) rfl (fun ls hl => ?_)
    refine lv_goto (tgt := 12) hx hb dX12_termGoes_130 (by decide) ?_
    exact hyL12 _ (Option.some.inj hf).symm H locs ls hS (lv_sub hl [1, 2, 3, 0] rfl)
  have hj72 : ∀ (x4 : Int32) (mm : Mem) (H : Heap) (locs : List Loc) (ls : Array Slot), fX12_termGoes_j72 (eS E) x0 x2 x3 x4 mm = some y12 → wS E s mm H locs → lv_has ls 9 [(0, .ref x0), (2, .int x2), (3, .int x3), (4, .int x4)] → W p l e R s m args below meth c H locs 0 0 Q (F0 m 72 ls []) := by
    intro x4 mm H locs ls hf hS hl
    unfold fX12_termGoes_j72 at hf
    refine lv_aload_n hx hb dX12_termGoes_72 rfl (lv_at hl 0 rfl) ?_
    refine lv_bipush (v := 16) hx hb dX12_termGoes_73 (by decide) ?_
    obtain ⟨u0, h0, hf⟩ := bs hf
    obtain ⟨_, hrc⟩ := isO_n h0
    obtain ⟨v6, m7, h1, hf⟩ := bs2 hf
    refine am_endi hS (am_runV (As := [.int 16]) X (hml.trans hl.1.symm) hS (cX12_draws_ok (l := l) (E := E) h1) mv_X12_454 hrc rfl ⟨Nat.le_trans (by decide) hR.1, Nat.le_trans (by decide) hR.2⟩ ⟨Nat.zero_le _, Nat.zero_le _⟩ rfl rfl (Nat.le_of_ble_eq_true rfl) dX12_termGoes_75) (fun H locs hS => ?_)
    refine lv_iload_n hx hb dX12_termGoes_78 rfl (lv_at hl 1 rfl) ?_
    refine lv_icmp_ge (tgt := 123) hx hb dX12_termGoes_79 (by decide) (fun q8 => ?_) (fun q8 => ?_)
    · have hf := ifp hf q8
      exact hj123 x4 m7 H locs ls hf hS hl
    · have hf := ifn hf q8
      refine lv_aload_n hx hb dX12_termGoes_82 rfl (lv_at hl 0 rfl) ?_
      refine lv_aload_n hx hb dX12_termGoes_83 rfl (lv_at hl 0 rfl) ?_
      obtain ⟨v9, h1, hf⟩ := bs hf
      refine am_gi X hS fl_X12_150 rfl h1 dX12_termGoes_84 ?_
      obtain ⟨u0, h0, hf⟩ := bs hf
      obtain ⟨_, hrc⟩ := isO_n h0
      obtain ⟨v10, m11, h1, hf⟩ := bs2 hf
      refine am_endi hS (am_runV (As := [.int v9]) X (hml.trans hl.1.symm) hS (cX12_draws_ok (l := l) (E := E) h1) mv_X12_454 hrc rfl ⟨Nat.le_trans (by decide) hR.1, Nat.le_trans (by decide) hR.2⟩ ⟨Nat.zero_le _, Nat.zero_le _⟩ rfl rfl (Nat.le_of_ble_eq_true rfl) dX12_termGoes_87) (fun H locs hS => ?_)
      refine lv_topi (fun x7_12 e1 => ?_)
      have hf := lt1_n e1 hf
      refine lv_istore (lv' := [(7, .int x7_12), (0, .ref x0), (2, .int x2), (3, .int x3), (4, .int x4)]) hx hb dX12_termGoes_90 hl (by decide) rfl (fun ls hl => ?_)
      refine lv_aload_n hx hb dX12_termGoes_92 rfl (lv_at hl 1 rfl) ?_
      refine lv_bipush (v := 7) hx hb dX12_termGoes_93 (by decide) ?_
      obtain ⟨u0, h0, hf⟩ := bs hf
      obtain ⟨_, hrc⟩ := isO_n h0
      obtain ⟨v13, m14, h1, hf⟩ := bs2 hf
      refine am_endi hS (am_runV (As := [.int 7]) X (hml.trans hl.1.symm) hS (cX12_draws_ok (l := l) (E := E) h1) mv_X12_454 hrc rfl ⟨Nat.le_trans (by decide) hR.1, Nat.le_trans (by decide) hR.2⟩ ⟨Nat.zero_le _, Nat.zero_le _⟩ rfl rfl (Nat.le_of_ble_eq_true rfl) dX12_termGoes_95) (fun H locs hS => ?_)
      refine lv_topi (fun x8_15 e1 => ?_)
      have hf := lt1_n e1 hf
      refine lv_istore (lv' := [(8, .int x8_15), (7, .int x7_12), (0, .ref x0), (2, .int x2), (3, .int x3), (4, .int x4)]) hx hb dX12_termGoes_98 hl (by decide) rfl (fun ls hl => ?_)
      refine lv_aload_n hx hb dX12_termGoes_100 rfl (lv_at hl 2 rfl) ?_
      refine lv_iconst (v := 0) hx hb dX12_termGoes_101 (by decide) ?_
      refine lv_iload hx hb dX12_termGoes_102 (lv_at hl 1 rfl) ?_
      refine lv_iload hx hb dX12_termGoes_104 (lv_at hl 0 rfl) ?_
      obtain ⟨v16, h1, hf⟩ := bs hf
      refine am_endi hS (am_runS (As := [.int 0, .int x7_12, .int x8_15]) X (hml.trans hl.1.symm) hS (cX12_in_ok (l := l) (E := E) h1) ms_X12_319 ⟨Nat.le_trans (by decide) hR.1, Nat.le_trans (by decide) hR.2⟩ ⟨Nat.zero_le _, Nat.zero_le _⟩ rfl rfl (Nat.le_of_ble_eq_true rfl) dX12_termGoes_106) (fun H locs hS => ?_)
      refine lv_bipush (v := 126) hx hb dX12_termGoes_109 (by decide) ?_
      refine lv_iload hx hb dX12_termGoes_111 (lv_at hl 1 rfl) ?_
      refine lv_iload hx hb dX12_termGoes_113 (lv_at hl 0 rfl) ?_
      obtain ⟨v17, h1, hf⟩ := bs hf
      refine am_endi hS (am_runS (As := [.int 126, .int x7_12, .int x8_15]) X (hml.trans hl.1.symm) hS (cX12_in_ok (l := l) (E := E) h1) ms_X12_319 ⟨Nat.le_trans (by decide) hR.1, Nat.le_trans (by decide) hR.2⟩ ⟨Nat.zero_le _, Nat.zero_le _⟩ rfl rfl (Nat.le_of_ble_eq_true rfl) dX12_termGoes_115) (fun H locs hS => ?_)
      refine lv_iconst (v := 1) hx hb dX12_termGoes_118 (by decide) ?_
      obtain ⟨u0, h0, hf⟩ := bs hf
      obtain ⟨_, hrc⟩ := isO_n h0
      obtain ⟨v18, m19, h1, hf⟩ := bs2 hf
      refine am_endi hS (am_runV (As := [.int v16, .int v17, .int 1]) X (hml.trans hl.1.symm) hS (cX12_isMoved_ok (l := l) (E := E) h1) mv_X12_352 hrc rfl ⟨Nat.le_trans (by decide) hR.1, Nat.le_trans (by decide) hR.2⟩ ⟨Nat.zero_le _, Nat.zero_le _⟩ rfl rfl (Nat.le_of_ble_eq_true rfl) dX12_termGoes_119) (fun H locs hS => ?_)
      refine lv_pop hx hb dX12_termGoes_122 rfl ?_
      exact hj123 x4 m19 H locs ls hf hS (lv_sub hl [2, 3, 4, 5] rfl)
  refine lv_iload hx hb dX12_termGoes_12 (lv_at hl 3 rfl) ?_
  refine lv_iload_n hx hb dX12_termGoes_14 rfl (lv_at hl 2 rfl) ?_
  refine lv_icmp_ge (tgt := 133) hx hb dX12_termGoes_15 (by decide) (fun q20 => ?_) (fun q20 => ?_)
  · have hf := ifp hf q20
    obtain rfl : mm = ex12 := hyR12 _ (Option.some.inj hf).symm
    exact hj133 mm H locs ls hk12 hS (lv_sub hl [] rfl)
  · have hf := ifn hf q20
    refine lv_aload_n hx hb dX12_termGoes_18 rfl (lv_at hl 0 rfl) ?_
    obtain ⟨v21, h1, hf⟩ := bs hf
    refine am_gi X hS fl_X12_150 rfl h1 dX12_termGoes_19 ?_
    refine lv_if_le (tgt := 123) hx hb dX12_termGoes_22 (by decide) (fun q22 => ?_) (fun q22 => ?_)
    · have hf := ifp hf q22
      exact hj123 x4 mm H locs ls hf hS hl
    · have hf := ifn hf q22
      refine lv_aload_n hx hb dX12_termGoes_25 rfl (lv_at hl 0 rfl) ?_
      obtain ⟨v23, h1, hf⟩ := bs hf
      refine am_gi X hS fl_X12_153 rfl h1 dX12_termGoes_26 ?_
      refine lv_if_le (tgt := 123) hx hb dX12_termGoes_29 (by decide) (fun q24 => ?_) (fun q24 => ?_)
      · have hf := ifp hf q24
        exact hj123 x4 mm H locs ls hf hS hl
      · have hf := ifn hf q24
        refine lv_aload_n hx hb dX12_termGoes_32 rfl (lv_at hl 0 rfl) ?_
        refine lv_aload_n hx hb dX12_termGoes_33 rfl (lv_at hl 0 rfl) ?_
        obtain ⟨v25, h1, hf⟩ := bs hf
        refine am_gi X hS fl_X12_150 rfl h1 dX12_termGoes_34 ?_
        obtain ⟨u0, h0, hf⟩ := bs hf
        obtain ⟨_, hrc⟩ := isO_n h0
        obtain ⟨v26, m27, h1, hf⟩ := bs2 hf
        refine am_endi hS (am_runV (As := [.int v25]) X (hml.trans hl.1.symm) hS (cX12_draws_ok (l := l) (E := E) h1) mv_X12_454 hrc rfl ⟨Nat.le_trans (by decide) hR.1, Nat.le_trans (by decide) hR.2⟩ ⟨Nat.zero_le _, Nat.zero_le _⟩ rfl rfl (Nat.le_of_ble_eq_true rfl) dX12_termGoes_37) (fun H locs hS => ?_)
        refine lv_topi (fun x5_28 e1 => ?_)
        have hf := lt1_n e1 hf
        refine lv_istore (lv' := [(5, .int x5_28), (0, .ref x0), (2, .int x2), (3, .int x3), (4, .int x4)]) hx hb dX12_termGoes_40 hl (by decide) rfl (fun ls hl => ?_)
        refine lv_aload_n hx hb dX12_termGoes_42 rfl (lv_at hl 1 rfl) ?_
        refine lv_aload_n hx hb dX12_termGoes_43 rfl (lv_at hl 1 rfl) ?_
        obtain ⟨v29, h1, hf⟩ := bs hf
        refine am_gi X hS fl_X12_153 rfl h1 dX12_termGoes_44 ?_
        obtain ⟨u0, h0, hf⟩ := bs hf
        obtain ⟨_, hrc⟩ := isO_n h0
        obtain ⟨v30, m31, h1, hf⟩ := bs2 hf
        refine am_endi hS (am_runV (As := [.int v29]) X (hml.trans hl.1.symm) hS (cX12_draws_ok (l := l) (E := E) h1) mv_X12_454 hrc rfl ⟨Nat.le_trans (by decide) hR.1, Nat.le_trans (by decide) hR.2⟩ ⟨Nat.zero_le _, Nat.zero_le _⟩ rfl rfl (Nat.le_of_ble_eq_true rfl) dX12_termGoes_47) (fun H locs hS => ?_)
        refine lv_topi (fun x6_32 e1 => ?_)
        have hf := lt1_n e1 hf
        refine lv_istore (lv' := [(6, .int x6_32), (5, .int x5_28), (0, .ref x0), (2, .int x2), (3, .int x3), (4, .int x4)]) hx hb dX12_termGoes_50 hl (by decide) rfl (fun ls hl => ?_)
        refine lv_aload_n hx hb dX12_termGoes_52 rfl (lv_at hl 2 rfl) ?_
        refine lv_iload hx hb dX12_termGoes_53 (lv_at hl 1 rfl) ?_
        refine lv_iload hx hb dX12_termGoes_55 (lv_at hl 0 rfl) ?_
        obtain ⟨u0, h0, hf⟩ := bs hf
        obtain ⟨_, hrc⟩ := isO_n h0
        obtain ⟨v33, m34, h1, hf⟩ := bs2 hf
        refine am_endi hS (am_runV (As := [.int x5_28, .int x6_32]) X (hml.trans hl.1.symm) hS (cX12_isParted_ok (l := l) (E := E) h1) mv_X12_345 hrc rfl ⟨Nat.le_trans (by decide) hR.1, Nat.le_trans (by decide) hR.2⟩ ⟨Nat.zero_le _, Nat.zero_le _⟩ rfl rfl (Nat.le_of_ble_eq_true rfl) dX12_termGoes_57) (fun H locs hS => ?_)
        refine lv_if_ne (tgt := 72) hx hb dX12_termGoes_60 (by decide) (fun q35 => ?_) (fun q35 => ?_)
        · have hf := ifn hf q35
          exact hj72 x4 m34 H locs ls hf hS (lv_sub hl [2, 3, 4, 5] rfl)
        · have hf := ifp hf q35
          refine lv_aload_n hx hb dX12_termGoes_63 rfl (lv_at hl 2 rfl) ?_
          refine lv_iload hx hb dX12_termGoes_64 (lv_at hl 1 rfl) ?_
          refine lv_iload hx hb dX12_termGoes_66 (lv_at hl 0 rfl) ?_
          obtain ⟨u0, h0, hf⟩ := bs hf
          obtain ⟨_, hrc⟩ := isO_n h0
          obtain ⟨v36, m37, h1, hf⟩ := bs2 hf
          refine am_endi hS (am_runV (As := [.int x5_28, .int x6_32]) X (hml.trans hl.1.symm) hS (cX12_isJoined_ok (l := l) (E := E) h1) mv_X12_349 hrc rfl ⟨Nat.le_trans (by decide) hR.1, Nat.le_trans (by decide) hR.2⟩ ⟨Nat.zero_le _, Nat.zero_le _⟩ rfl rfl (Nat.le_of_ble_eq_true rfl) dX12_termGoes_68) (fun H locs hS => ?_)
          refine lv_pop hx hb dX12_termGoes_71 rfl ?_
          exact hj72 x4 m37 H locs ls hf hS (lv_sub hl [2, 3, 4, 5] rfl)
set_option maxRecDepth 100000 in
theorem cX12_termGoes_ok {l : Launch} {E : Ev} {x0 : Nat} {x1 : Int32} {x2 : Int32} {x3 : Int32} {mm : Mem} {mm1 : Mem} (hf : fX12_termGoes (eS E) x0 x1 x2 x3 mm = some mm1) : CtV l yX12_termGoes cX12_termGoes 9 none 7 167 E [.ref x0, .int x1, .int x2, .int x3] mm mm1 := by
  refine Met.ofW (cc := cX12_termGoes) (maxL := 9) (ret := none) (by decide) rfl ?_
  intro p e s m args below meth c s₁ B hml hv
  obtain ⟨rfl, X, hS, hr, hlocks⟩ := am_in B hv
  refine am_entry (Nat.le_of_ble_eq_true rfl) (fun ls hl => ?_)
  exact wX12_termGoes X hml ⟨Nat.le_refl _, Nat.le_refl _⟩ hf (fun pc H locs ls hd hS => am_rv X hS hr hd hlocks) _ _ ls hS hl
set_option maxHeartbeats 4000000 in
set_option maxRecDepth 100000 in
theorem wX12_isTerm {p : Program} {l : Launch} {e : Env} {R : Room} {s : State} {m : MethodId} {args : Array Value} {below : List Frame} {meth : Method} {c : Code} {Q : State → Prop} {E : Ev} (X : Cx p s m args c cX12_isTerm RX12 E) (hml : c.maxLocals = 2) (hR : 0 ≤ R.frames ∧ 0 ≤ R.locals) {x0 : Int32} {x1 : Int32} {mm : Mem} {r : Int32} (hf : fX12_isTerm x0 x1 = some r) (hret : ∀ (pc : Nat) (H : Heap) (locs : List Loc) (ls : Array Slot), narrow .boolean (.int r) = .int r → decode cX12_isTerm pc = .ok (.ireturn, 1) → wS E s mm H locs → W p l e R s m args below meth c H locs 0 0 Q (F0 m pc ls [.int r])) : ∀ (H : Heap) (locs : List Loc) (ls : Array Slot), wS E s mm H locs → lv_has ls 2 [(0, .int x0), (1, .int x1)] → W p l e R s m args below meth c H locs 0 0 Q (F0 m 0 ls []) := by
  have hx := X.1
  have hb := X.2.1
  unfold fX12_isTerm at hf
  have hj26 : ∀ (s0 : Int32) (H : Heap) (locs : List Loc) (ls : Array Slot), fX12_isTerm_j26 s0 = some r → wS E s mm H locs → lv_has ls 2 [] → W p l e R s m args below meth c H locs 0 0 Q (F0 m 26 ls [.int s0]) := by
    intro s0 H locs ls hf hS hl
    unfold fX12_isTerm_j26 at hf
    obtain ⟨v1, h1, hf⟩ := bs hf
    obtain ⟨rfl, h2⟩ := ckZ_n h1
    cases hf
    exact hret _ _ _ _ h2 dX12_isTerm_26 hS
  have hj25 : ∀ (H : Heap) (locs : List Loc) (ls : Array Slot), fX12_isTerm_j25 = some r → wS E s mm H locs → lv_has ls 2 [] → W p l e R s m args below meth c H locs 0 0 Q (F0 m 25 ls []) := by
    intro H locs ls hf hS hl
    unfold fX12_isTerm_j25 at hf
    refine lv_iconst (v := 0) hx hb dX12_isTerm_25 (by decide) ?_
    exact hj26 0 H locs ls hf hS hl
  intro H locs ls hS hl
  refine lv_iload_n hx hb dX12_isTerm_0 rfl (lv_at hl 0 rfl) ?_
  refine lv_if_lt (tgt := 25) hx hb dX12_isTerm_1 (by decide) (fun q2 => ?_) (fun q2 => ?_)
  · have hf := ifp hf q2
    exact hj25  H locs ls hf hS (lv_sub hl [] rfl)
  · have hf := ifn hf q2
    refine lv_iload_n hx hb dX12_isTerm_4 rfl (lv_at hl 0 rfl) ?_
    refine lv_bipush (v := 16) hx hb dX12_isTerm_5 (by decide) ?_
    refine lv_icmp_gt (tgt := 25) hx hb dX12_isTerm_7 (by decide) (fun q3 => ?_) (fun q3 => ?_)
    · have hf := ifp hf q3
      exact hj25  H locs ls hf hS (lv_sub hl [] rfl)
    · have hf := ifn hf q3
      refine lv_iload_n hx hb dX12_isTerm_10 rfl (lv_at hl 1 rfl) ?_
      refine lv_iconst (v := 1) hx hb dX12_isTerm_11 (by decide) ?_
      refine lv_icmp_lt (tgt := 25) hx hb dX12_isTerm_12 (by decide) (fun q4 => ?_) (fun q4 => ?_)
      · have hf := ifp hf q4
        exact hj25  H locs ls hf hS (lv_sub hl [] rfl)
      · have hf := ifn hf q4
        refine lv_iload_n hx hb dX12_isTerm_15 rfl (lv_at hl 1 rfl) ?_
        refine lv_bipush (v := 48) hx hb dX12_isTerm_16 (by decide) ?_
        refine lv_icmp_gt (tgt := 25) hx hb dX12_isTerm_18 (by decide) (fun q5 => ?_) (fun q5 => ?_)
        · have hf := ifp hf q5
          exact hj25  H locs ls hf hS (lv_sub hl [] rfl)
        · have hf := ifn hf q5
          refine lv_iconst (v := 1) hx hb dX12_isTerm_21 (by decide) ?_
          refine lv_goto (tgt := 26) hx hb dX12_isTerm_22 (by decide) ?_
          exact hj26 1 H locs ls hf hS (lv_sub hl [] rfl)
set_option maxRecDepth 100000 in
theorem cX12_isTerm_ok {l : Launch} {E : Ev} {x0 : Int32} {x1 : Int32} {mm : Mem} {r : Int32} (hf : fX12_isTerm x0 x1 = some r) : CtI l yX12_isTerm cX12_isTerm 2 (some .boolean) 0 0 E [.int x0, .int x1] mm r mm := by
  refine Met.ofW (cc := cX12_isTerm) (maxL := 2) (ret := (some .boolean)) (by decide) rfl ?_
  intro p e s m args below meth c s₁ B hml hv
  obtain ⟨rfl, X, hS, hr, hlocks⟩ := am_in B hv
  refine am_entry (Nat.le_of_ble_eq_true rfl) (fun ls hl => ?_)
  exact wX12_isTerm X hml ⟨Nat.le_refl _, Nat.le_refl _⟩ hf (fun pc H locs ls hn hd hS => am_ri X hS hr hn hd hlocks) _ _ ls hS hl
set_option maxHeartbeats 4000000 in
set_option maxRecDepth 100000 in
theorem wX12_term {p : Program} {l : Launch} {e : Env} {R : Room} {s : State} {m : MethodId} {args : Array Value} {below : List Frame} {meth : Method} {c : Code} {Q : State → Prop} {E : Ev} (X : Cx p s m args c cX12_term RX12 E) (hml : c.maxLocals = 7) (hR : 8 ≤ R.frames ∧ 195 ≤ R.locals) {x0 : Nat} {x1 : Int32} {x2 : Int32} {x3 : Int32} {x4 : Int32} {mm : Mem} {r : Int32} {mm1 : Mem} (hf : fX12_term (eS E) x0 x1 x2 x3 x4 mm = some (r, mm1)) (hret : ∀ (pc : Nat) (H : Heap) (locs : List Loc) (ls : Array Slot), narrow .int (.int r) = .int r → decode cX12_term pc = .ok (.ireturn, 1) → wS E s mm1 H locs → W p l e R s m args below meth c H locs 0 0 Q (F0 m pc ls [.int r])) : ∀ (H : Heap) (locs : List Loc) (ls : Array Slot), wS E s mm H locs → lv_has ls 7 [(0, .ref x0), (1, .int x1), (2, .int x2), (3, .int x3), (4, .int x4)] → W p l e R s m args below meth c H locs 0 0 Q (F0 m 0 ls []) := by
  have hx := X.1
  have hb := X.2.1
  unfold fX12_term at hf
  have hj130 : ∀ (s0 : Int32) (mm : Mem) (H : Heap) (locs : List Loc) (ls : Array Slot), fX12_term_j130 (eS E) s0 mm = some (r, mm1) → wS E s mm H locs → lv_has ls 7 [] → W p l e R s m args below meth c H locs 0 0 Q (F0 m 130 ls [.int s0]) := by
    intro s0 mm H locs ls hf hS hl
    unfold fX12_term_j130 at hf
    cases hf
    exact hret _ _ _ _ rfl dX12_term_130 hS
  have hj105 : ∀ (x0 : Nat) (x4 : Int32) (x5 : Int32) (mm : Mem) (H : Heap) (locs : List Loc) (ls : Array Slot), fX12_term_j105 (eS E) x0 x4 x5 mm = some (r, mm1) → wS E s mm H locs → lv_has ls 7 [(0, .ref x0), (4, .int x4), (5, .int x5)] → W p l e R s m args below meth c H locs 0 0 Q (F0 m 105 ls []) := by
    intro x0 x4 x5 mm H locs ls hf hS hl
    unfold fX12_term_j105 at hf
    refine lv_iload hx hb dX12_term_105 (lv_at hl 1 rfl) ?_
    refine lv_iconst (v := 2) hx hb dX12_term_107 (by decide) ?_
    refine lv_icmp_ne (tgt := 126) hx hb dX12_term_108 (by decide) (fun q1 => ?_) (fun q1 => ?_)
    · have hf := ifn hf q1
      refine lv_aload_n hx hb dX12_term_126 rfl (lv_at hl 0 rfl) ?_
      obtain ⟨u0, h0, hf⟩ := bs hf
      obtain ⟨_, hrc⟩ := isO_n h0
      obtain ⟨v2, h1, hf⟩ := bs hf
      refine am_endi hS (am_runV (As := []) X (hml.trans hl.1.symm) hS (cX12_whites_ok (l := l) (E := E) h1) mv_X12_371 hrc rfl ⟨Nat.le_trans (by decide) hR.1, Nat.le_trans (by decide) hR.2⟩ ⟨Nat.zero_le _, Nat.zero_le _⟩ rfl rfl (Nat.le_of_ble_eq_true rfl) dX12_term_127) (fun H locs hS => ?_)
      exact hj130 v2 mm H locs ls hf hS (lv_sub hl [] rfl)
    · have hf := ifp hf q1
      refine lv_aload_n hx hb dX12_term_111 rfl (lv_at hl 0 rfl) ?_
      refine lv_sipush (v := 168) hx hb dX12_term_112 (by decide) ?_
      refine lv_bipush (v := 6) hx hb dX12_term_115 (by decide) ?_
      obtain ⟨u0, h0, hf⟩ := bs hf
      obtain ⟨_, hrc⟩ := isO_n h0
      obtain ⟨v3, h1, hf⟩ := bs hf
      refine am_endi hS (am_runV (As := [.int 168, .int 6]) X (hml.trans hl.1.symm) hS (cX12_sumOf_ok (l := l) (E := E) h1) mv_X12_322 hrc rfl ⟨Nat.le_trans (by decide) hR.1, Nat.le_trans (by decide) hR.2⟩ ⟨Nat.zero_le _, Nat.zero_le _⟩ rfl rfl (Nat.le_of_ble_eq_true rfl) dX12_term_117) (fun H locs hS => ?_)
      refine lv_iload hx hb dX12_term_120 (lv_at hl 2 rfl) ?_
      refine lv_isub hx hb dX12_term_122 ?_
      refine lv_goto (tgt := 130) hx hb dX12_term_123 (by decide) ?_
      exact hj130 (v3 - x5) mm H locs ls hf hS (lv_sub hl [] rfl)
  have hj64 : ∀ (s0 : Nat) (s1 : Int32) (mm : Mem) (H : Heap) (locs : List Loc) (ls : Array Slot), fX12_term_j64 (eS E) s0 s1 mm = some (r, mm1) → wS E s mm H locs → lv_has ls 7 [] → W p l e R s m args below meth c H locs 0 0 Q (F0 m 64 ls [.int s1, .ref s0]) := by
    intro s0 s1 mm H locs ls hf hS hl
    unfold fX12_term_j64 at hf
    refine lv_bipush (v := 42) hx hb dX12_term_64 (by decide) ?_
    obtain ⟨u0, h0, hf⟩ := bs hf
    obtain ⟨_, hrc⟩ := isO_n h0
    obtain ⟨v4, h1, hf⟩ := bs hf
    refine am_endi hS (am_runV (As := [.int s1, .int 42]) X (hml.trans hl.1.symm) hS (cX12_sumOf_ok (l := l) (E := E) h1) mv_X12_322 hrc rfl ⟨Nat.le_trans (by decide) hR.1, Nat.le_trans (by decide) hR.2⟩ ⟨Nat.zero_le _, Nat.zero_le _⟩ rfl rfl (Nat.le_of_ble_eq_true rfl) dX12_term_66) (fun H locs hS => ?_)
    cases hf
    exact hret _ _ _ _ rfl dX12_term_69 hS
  have hj29 : ∀ (x0 : Nat) (x1 : Int32) (x2 : Int32) (x3 : Int32) (x4 : Int32) (s0 : Nat) (s1 : Int32) (mm : Mem) (H : Heap) (locs : List Loc) (ls : Array Slot), fX12_term_j29 (eS E) x0 x1 x2 x3 x4 s0 s1 mm = some (r, mm1) → wS E s mm H locs → lv_has ls 7 [(0, .ref x0), (1, .int x1), (2, .int x2), (3, .int x3), (4, .int x4)] → W p l e R s m args below meth c H locs 0 0 Q (F0 m 29 ls [.int s1, .ref s0]) := by
    intro x0 x1 x2 x3 x4 s0 s1 mm H locs ls hf hS hl
    unfold fX12_term_j29 at hf
    refine lv_iconst (v := 1) hx hb dX12_term_29 (by decide) ?_
    refine lv_iconst (v := 1) hx hb dX12_term_30 (by decide) ?_
    obtain ⟨u0, h0, hf⟩ := bs hf
    obtain ⟨_, hrc⟩ := isO_n h0
    obtain ⟨v5, m6, h1, hf⟩ := bs2 hf
    refine am_endi hS (am_runV (As := [.int s1, .int 1, .int 1]) X (hml.trans hl.1.symm) hS (cX12_may_ok (l := l) (E := E) h1) mv_X12_190 hrc rfl ⟨Nat.le_trans (by decide) hR.1, Nat.le_trans (by decide) hR.2⟩ ⟨Nat.zero_le _, Nat.zero_le _⟩ rfl rfl (Nat.le_of_ble_eq_true rfl) dX12_term_31) (fun H locs hS => ?_)
    refine lv_if_ne (tgt := 39) hx hb dX12_term_34 (by decide) (fun q7 => ?_) (fun q7 => ?_)
    · have hf := ifn hf q7
      refine lv_aload_n hx hb dX12_term_39 rfl (lv_at hl 0 rfl) ?_
      refine lv_iload_n hx hb dX12_term_40 rfl (lv_at hl 1 rfl) ?_
      refine lv_iload_n hx hb dX12_term_41 rfl (lv_at hl 2 rfl) ?_
      refine lv_iload_n hx hb dX12_term_42 rfl (lv_at hl 3 rfl) ?_
      obtain ⟨u0, h0, hf⟩ := bs hf
      obtain ⟨_, hrc⟩ := isO_n h0
      obtain ⟨m8, h1, hf⟩ := bs hf
      refine am_endv hS (am_runV (As := [.int x1, .int x2, .int x3]) X (hml.trans hl.1.symm) hS (cX12_termGoes_ok (l := l) (E := E) h1) mv_X12_460 hrc rfl ⟨Nat.le_trans (by decide) hR.1, Nat.le_trans (by decide) hR.2⟩ ⟨Nat.zero_le _, Nat.zero_le _⟩ rfl rfl (Nat.le_of_ble_eq_true rfl) dX12_term_43) (fun H locs hS => ?_)
      refine lv_iload hx hb dX12_term_46 (lv_at hl 4 rfl) ?_
      refine lv_iconst (v := 2) hx hb dX12_term_48 (by decide) ?_
      refine lv_icmp_ge (tgt := 70) hx hb dX12_term_49 (by decide) (fun q9 => ?_) (fun q9 => ?_)
      · have hf := ifp hf q9
        refine lv_iconst (v := 0) hx hb dX12_term_70 (by decide) ?_
        refine lv_topi (fun x5_10 e1 => ?_)
        have hf := lt1_n e1 hf
        refine lv_istore (lv' := [(5, .int x5_10), (0, .ref x0), (1, .int x1), (2, .int x2), (3, .int x3), (4, .int x4)]) hx hb dX12_term_71 hl (by decide) rfl (fun ls hl => ?_)
        refine lv_iconst (v := 0) hx hb dX12_term_73 (by decide) ?_
        refine lv_topi (fun x6_11 e1 => ?_)
        have hf := lt1_n e1 hf
        refine lv_istore (lv' := [(6, .int x6_11), (5, .int x5_10), (0, .ref x0), (1, .int x1), (2, .int x2), (3, .int x3), (4, .int x4)]) hx hb dX12_term_74 hl (by decide) rfl (fun ls hl => ?_)
        obtain ⟨ex76, hl76, hk76⟩ := bs hf
        refine loop_W (P := fun st => ∀ (H : Heap) (locs : List Loc) (ls : Array Slot), wS E s m8 H locs → lv_has ls 7 [(0, .ref x0), (4, .int x4), (5, .int st.1), (6, .int st.2)] → W p l e R s m args below meth c H locs 0 0 Q (F0 m 76 ls [])) (ex := ex76) ?_ FU _ hl76 H locs ls hS (lv_sub hl [2, 6, 1, 0] rfl)
        intro st y76 hf hyL76 hyR76 H locs ls hS hl
        obtain ⟨x5, x6⟩ := st
        obtain ⟨mm, rfl⟩ : ∃ z, z = m8 := ⟨_, rfl⟩
        have hf : fX12_term_b76 (eS E) x0 x4 x5 x6 mm = some y76 := hf
        have hS : wS E s mm H locs := hS
        have hl : lv_has ls 7 [(0, .ref x0), (4, .int x4), (5, .int x5), (6, .int x6)] := hl
        unfold fX12_term_b76 at hf
        refine lv_iload hx hb dX12_term_76 (lv_at hl 3 rfl) ?_
        refine lv_bipush (v := 6) hx hb dX12_term_78 (by decide) ?_
        refine lv_icmp_ge (tgt := 105) hx hb dX12_term_80 (by decide) (fun q12 => ?_) (fun q12 => ?_)
        · have hf := ifp hf q12
          obtain rfl : x5 = ex76 := hyR76 _ (Option.some.inj hf).symm
          exact hj105 x0 x4 x5 mm H locs ls hk76 hS (lv_sub hl [0, 1, 2] rfl)
        · have hf := ifn hf q12
          refine lv_iload hx hb dX12_term_83 (lv_at hl 2 rfl) ?_
          refine lv_aload_n hx hb dX12_term_85 rfl (lv_at hl 0 rfl) ?_
          obtain ⟨a13, h1, hf⟩ := bs hf
          refine am_gr X hS fl_X12_59 rfl h1 dX12_term_86 ?_
          refine lv_sipush (v := 168) hx hb dX12_term_89 (by decide) ?_
          refine lv_iload hx hb dX12_term_92 (lv_at hl 3 rfl) ?_
          refine lv_iadd hx hb dX12_term_94 ?_
          obtain ⟨v14, h1, hf⟩ := bs hf
          refine am_ald X hS h1 dX12_term_95 ?_
          refine lv_iadd hx hb dX12_term_96 ?_
          refine lv_topi (fun x5_15 e1 => ?_)
          have hf := lt1_n e1 hf
          refine lv_istore (lv' := [(5, .int x5_15), (0, .ref x0), (4, .int x4), (6, .int x6)]) hx hb dX12_term_97 hl (by decide) rfl (fun ls hl => ?_)
          obtain ⟨x6_16, e1⟩ : ∃ z : Int32, z = x6 + 1 := ⟨_, rfl⟩
          have hf := lt1_n e1 hf
          refine lv_iinc (v := x6_16) (lv' := [(6, .int x6_16), (5, .int x5_15), (0, .ref x0), (4, .int x4)]) hx hb dX12_term_99 hl (k := 3) rfl (by rw [e1]; rfl) (by decide) rfl (fun ls hl => ?_)
          refine lv_goto (tgt := 76) hx hb dX12_term_102 (by decide) ?_
          exact hyL76 _ (Option.some.inj hf).symm H locs ls hS (lv_sub hl [2, 3, 1, 0] rfl)
      · have hf := ifn hf q9
        refine lv_aload_n hx hb dX12_term_52 rfl (lv_at hl 0 rfl) ?_
        refine lv_iload hx hb dX12_term_53 (lv_at hl 4 rfl) ?_
        refine lv_if_ne (tgt := 62) hx hb dX12_term_55 (by decide) (fun q17 => ?_) (fun q17 => ?_)
        · have hf := ifn hf q17
          refine lv_bipush (v := 42) hx hb dX12_term_62 (by decide) ?_
          exact hj64 x0 42 m8 H locs ls hf hS (lv_sub hl [] rfl)
        · have hf := ifp hf q17
          refine lv_iconst (v := 0) hx hb dX12_term_58 (by decide) ?_
          refine lv_goto (tgt := 64) hx hb dX12_term_59 (by decide) ?_
          exact hj64 x0 0 m8 H locs ls hf hS (lv_sub hl [] rfl)
    · have hf := ifp hf q7
      refine lv_iconst (v := 0) hx hb dX12_term_37 (by decide) ?_
      cases hf
      exact hret _ _ _ _ rfl dX12_term_38 hS
  have hj28 : ∀ (x0 : Nat) (x1 : Int32) (x2 : Int32) (x3 : Int32) (x4 : Int32) (s0 : Nat) (mm : Mem) (H : Heap) (locs : List Loc) (ls : Array Slot), fX12_term_j28 (eS E) x0 x1 x2 x3 x4 s0 mm = some (r, mm1) → wS E s mm H locs → lv_has ls 7 [(0, .ref x0), (1, .int x1), (2, .int x2), (3, .int x3), (4, .int x4)] → W p l e R s m args below meth c H locs 0 0 Q (F0 m 28 ls [.ref s0]) := by
    intro x0 x1 x2 x3 x4 s0 mm H locs ls hf hS hl
    unfold fX12_term_j28 at hf
    refine lv_iconst (v := 0) hx hb dX12_term_28 (by decide) ?_
    exact hj29 x0 x1 x2 x3 x4 s0 0 mm H locs ls hf hS hl
  intro H locs ls hS hl
  refine lv_aload_n hx hb dX12_term_0 rfl (lv_at hl 0 rfl) ?_
  refine lv_iconst (v := 0) hx hb dX12_term_1 (by decide) ?_
  obtain ⟨m18, h1, hf⟩ := bs hf
  refine am_pi X hS fp_X12_3 rfl h1 dX12_term_2 (fun H locs hS => ?_)
  refine lv_aload_n hx hb dX12_term_5 rfl (lv_at hl 0 rfl) ?_
  refine lv_iload_n hx hb dX12_term_6 rfl (lv_at hl 2 rfl) ?_
  refine lv_iload_n hx hb dX12_term_7 rfl (lv_at hl 3 rfl) ?_
  obtain ⟨v19, h1, hf⟩ := bs hf
  refine am_endi hS (am_runS (As := [.int x2, .int x3]) X (hml.trans hl.1.symm) hS (cX12_isTerm_ok (l := l) (E := E) h1) ms_X12_457 ⟨Nat.le_trans (by decide) hR.1, Nat.le_trans (by decide) hR.2⟩ ⟨Nat.zero_le _, Nat.zero_le _⟩ rfl rfl (Nat.le_of_ble_eq_true rfl) dX12_term_8) (fun H locs hS => ?_)
  refine lv_if_eq (tgt := 28) hx hb dX12_term_11 (by decide) (fun q20 => ?_) (fun q20 => ?_)
  · have hf := ifp hf q20
    exact hj28 x0 x1 x2 x3 x4 x0 m18 H locs ls hf hS hl
  · have hf := ifn hf q20
    refine lv_iload hx hb dX12_term_14 (lv_at hl 4 rfl) ?_
    refine lv_iconst (v := 0) hx hb dX12_term_16 (by decide) ?_
    refine lv_iconst (v := 3) hx hb dX12_term_17 (by decide) ?_
    obtain ⟨v21, h1, hf⟩ := bs hf
    refine am_endi hS (am_runS (As := [.int x4, .int 0, .int 3]) X (hml.trans hl.1.symm) hS (cX12_within_ok (l := l) (E := E) h1) ms_X12_368 ⟨Nat.le_trans (by decide) hR.1, Nat.le_trans (by decide) hR.2⟩ ⟨Nat.zero_le _, Nat.zero_le _⟩ rfl rfl (Nat.le_of_ble_eq_true rfl) dX12_term_18) (fun H locs hS => ?_)
    refine lv_if_eq (tgt := 28) hx hb dX12_term_21 (by decide) (fun q22 => ?_) (fun q22 => ?_)
    · have hf := ifp hf q22
      exact hj28 x0 x1 x2 x3 x4 x0 m18 H locs ls hf hS hl
    · have hf := ifn hf q22
      refine lv_iconst (v := 1) hx hb dX12_term_24 (by decide) ?_
      refine lv_goto (tgt := 29) hx hb dX12_term_25 (by decide) ?_
      exact hj29 x0 x1 x2 x3 x4 x0 1 m18 H locs ls hf hS hl
set_option maxRecDepth 100000 in
theorem cX12_term_ok {l : Launch} {E : Ev} {x0 : Nat} {x1 : Int32} {x2 : Int32} {x3 : Int32} {x4 : Int32} {mm : Mem} {r : Int32} {mm1 : Mem} (hf : fX12_term (eS E) x0 x1 x2 x3 x4 mm = some (r, mm1)) : CtI l yX12_term cX12_term 7 (some .int) 8 195 E [.ref x0, .int x1, .int x2, .int x3, .int x4] mm r mm1 := by
  refine Met.ofW (cc := cX12_term) (maxL := 7) (ret := (some .int)) (by decide) rfl ?_
  intro p e s m args below meth c s₁ B hml hv
  obtain ⟨rfl, X, hS, hr, hlocks⟩ := am_in B hv
  refine am_entry (Nat.le_of_ble_eq_true rfl) (fun ls hl => ?_)
  exact wX12_term X hml ⟨Nat.le_refl _, Nat.le_refl _⟩ hf (fun pc H locs ls hn hd hS => am_ri X hS hr hn hd hlocks) _ _ ls hS hl
set_option maxHeartbeats 4000000 in
set_option maxRecDepth 100000 in
theorem wX12_span {p : Program} {l : Launch} {e : Env} {R : Room} {s : State} {m : MethodId} {args : Array Value} {below : List Frame} {meth : Method} {c : Code} {Q : State → Prop} {E : Ev} (X : Cx p s m args c cX12_span RX12 E) (hml : c.maxLocals = 12) (hR : 8 ≤ R.frames ∧ 195 ≤ R.locals) {x0 : Nat} {x1 : Int32} {x2 : Int32} {x3 : Int32} {x4 : Int32} {x5 : Int32} {x6 : Int32} {mm : Mem} {r : Int32} {mm1 : Mem} (hf : fX12_span (eS E) x0 x1 x2 x3 x4 x5 x6 mm = some (r, mm1)) (hret : ∀ (pc : Nat) (H : Heap) (locs : List Loc) (ls : Array Slot), narrow .int (.int r) = .int r → decode cX12_span pc = .ok (.ireturn, 1) → wS E s mm1 H locs → W p l e R s m args below meth c H locs 0 0 Q (F0 m pc ls [.int r])) : ∀ (H : Heap) (locs : List Loc) (ls : Array Slot), wS E s mm H locs → lv_has ls 12 [(0, .ref x0), (1, .int x1), (2, .int x2), (3, .int x3), (4, .int x4), (5, .int x5), (6, .int x6)] → W p l e R s m args below meth c H locs 0 0 Q (F0 m 0 ls []) := by
  have hx := X.1
  have hb := X.2.1
  unfold fX12_span at hf
  have hj189 : ∀ (s0 : Int32) (mm : Mem) (H : Heap) (locs : List Loc) (ls : Array Slot), fX12_span_j189 (eS E) s0 mm = some (r, mm1) → wS E s mm H locs → lv_has ls 12 [] → W p l e R s m args below meth c H locs 0 0 Q (F0 m 189 ls [.int s0]) := by
    intro s0 mm H locs ls hf hS hl
    unfold fX12_span_j189 at hf
    cases hf
    exact hret _ _ _ _ rfl dX12_span_189 hS
  have hj166 : ∀ (x5 : Int32) (x7 : Int32) (x8 : Int32) (x9 : Int32) (mm : Mem) (H : Heap) (locs : List Loc) (ls : Array Slot), fX12_span_j166 (eS E) x5 x7 x8 x9 mm = some (r, mm1) → wS E s mm H locs → lv_has ls 12 [(5, .int x5), (7, .int x7), (8, .int x8), (9, .int x9)] → W p l e R s m args below meth c H locs 0 0 Q (F0 m 166 ls []) := by
    intro x5 x7 x8 x9 mm H locs ls hf hS hl
    unfold fX12_span_j166 at hf
    refine lv_iload hx hb dX12_span_166 (lv_at hl 0 rfl) ?_
    refine lv_if_ne (tgt := 176) hx hb dX12_span_168 (by decide) (fun q1 => ?_) (fun q1 => ?_)
    · have hf := ifn hf q1
      refine lv_iload hx hb dX12_span_176 (lv_at hl 0 rfl) ?_
      refine lv_iconst (v := 1) hx hb dX12_span_178 (by decide) ?_
      refine lv_icmp_ne (tgt := 187) hx hb dX12_span_179 (by decide) (fun q2 => ?_) (fun q2 => ?_)
      · have hf := ifn hf q2
        refine lv_iload hx hb dX12_span_187 (lv_at hl 3 rfl) ?_
        exact hj189 x9 mm H locs ls hf hS (lv_sub hl [] rfl)
      · have hf := ifp hf q2
        refine lv_iload hx hb dX12_span_182 (lv_at hl 2 rfl) ?_
        refine lv_goto (tgt := 189) hx hb dX12_span_184 (by decide) ?_
        exact hj189 x8 mm H locs ls hf hS (lv_sub hl [] rfl)
    · have hf := ifp hf q1
      refine lv_iload hx hb dX12_span_171 (lv_at hl 1 rfl) ?_
      refine lv_goto (tgt := 189) hx hb dX12_span_173 (by decide) ?_
      exact hj189 x7 mm H locs ls hf hS (lv_sub hl [] rfl)
  have hj55 : ∀ (x0 : Nat) (x1 : Int32) (x2 : Int32) (x3 : Int32) (x4 : Int32) (x5 : Int32) (x6 : Int32) (s0 : Nat) (s1 : Int32) (mm : Mem) (H : Heap) (locs : List Loc) (ls : Array Slot), fX12_span_j55 (eS E) x0 x1 x2 x3 x4 x5 x6 s0 s1 mm = some (r, mm1) → wS E s mm H locs → lv_has ls 12 [(0, .ref x0), (1, .int x1), (2, .int x2), (3, .int x3), (4, .int x4), (5, .int x5), (6, .int x6)] → W p l e R s m args below meth c H locs 0 0 Q (F0 m 55 ls [.int s1, .ref s0]) := by
    intro x0 x1 x2 x3 x4 x5 x6 s0 s1 mm H locs ls hf hS hl
    unfold fX12_span_j55 at hf
    refine lv_iconst (v := 1) hx hb dX12_span_55 (by decide) ?_
    refine lv_iconst (v := 1) hx hb dX12_span_56 (by decide) ?_
    obtain ⟨u0, h0, hf⟩ := bs hf
    obtain ⟨_, hrc⟩ := isO_n h0
    obtain ⟨v3, m4, h1, hf⟩ := bs2 hf
    refine am_endi hS (am_runV (As := [.int s1, .int 1, .int 1]) X (hml.trans hl.1.symm) hS (cX12_may_ok (l := l) (E := E) h1) mv_X12_190 hrc rfl ⟨Nat.le_trans (by decide) hR.1, Nat.le_trans (by decide) hR.2⟩ ⟨Nat.zero_le _, Nat.zero_le _⟩ rfl rfl (Nat.le_of_ble_eq_true rfl) dX12_span_57) (fun H locs hS => ?_)
    refine lv_if_ne (tgt := 65) hx hb dX12_span_60 (by decide) (fun q5 => ?_) (fun q5 => ?_)
    · have hf := ifn hf q5
      refine lv_iconst (v := (-1)) hx hb dX12_span_65 (by decide) ?_
      refine lv_topi (fun x7_6 e1 => ?_)
      have hf := lt1_n e1 hf
      refine lv_istore (lv' := [(7, .int x7_6), (0, .ref x0), (1, .int x1), (2, .int x2), (3, .int x3), (4, .int x4), (5, .int x5), (6, .int x6)]) hx hb dX12_span_66 hl (by decide) rfl (fun ls hl => ?_)
      refine lv_iconst (v := 0) hx hb dX12_span_68 (by decide) ?_
      refine lv_topi (fun x8_7 e1 => ?_)
      have hf := lt1_n e1 hf
      refine lv_istore (lv' := [(8, .int x8_7), (7, .int x7_6), (0, .ref x0), (1, .int x1), (2, .int x2), (3, .int x3), (4, .int x4), (5, .int x5), (6, .int x6)]) hx hb dX12_span_69 hl (by decide) rfl (fun ls hl => ?_)
      refine lv_iconst (v := 0) hx hb dX12_span_71 (by decide) ?_
      refine lv_topi (fun x9_8 e1 => ?_)
      have hf := lt1_n e1 hf
      refine lv_istore (lv' := [(9, .int x9_8), (8, .int x8_7), (7, .int x7_6), (0, .ref x0), (1, .int x1), (2, .int x2), (3, .int x3), (4, .int x4), (5, .int x5), (6, .int x6)]) hx hb dX12_span_72 hl (by decide) rfl (fun ls hl => ?_)
      refine lv_iconst (v := 0) hx hb dX12_span_74 (by decide) ?_
      refine lv_topi (fun x10_9 e1 => ?_)
      have hf := lt1_n e1 hf
      refine lv_istore (lv' := [(10, .int x10_9), (9, .int x9_8), (8, .int x8_7), (7, .int x7_6), (0, .ref x0), (1, .int x1), (2, .int x2), (3, .int x3), (4, .int x4), (5, .int x5), (6, .int x6)]) hx hb dX12_span_75 hl (by decide) rfl (fun ls hl => ?_)
      obtain ⟨ex77, hl77, hk77⟩ := bs hf
      refine loop_W (P := fun st => ∀ (H : Heap) (locs : List Loc) (ls : Array Slot), wS E s st.2.2.2.2 H locs → lv_has ls 12 [(0, .ref x0), (1, .int x1), (2, .int x2), (3, .int x3), (4, .int x4), (5, .int x5), (6, .int x6), (7, .int st.1), (8, .int st.2.1), (9, .int st.2.2.1), (10, .int st.2.2.2.1)] → W p l e R s m args below meth c H locs 0 0 Q (F0 m 77 ls [])) (ex := ex77) ?_ FU _ hl77 H locs ls hS (lv_sub hl [4, 5, 6, 7, 8, 9, 10, 3, 2, 1, 0] rfl)
      intro st y77 hf hyL77 hyR77 H locs ls hS hl
      obtain ⟨x7, x8, x9, x10, mm⟩ := st
      have hf : fX12_span_b77 (eS E) x0 x1 x2 x3 x4 x5 x6 x7 x8 x9 x10 mm = some y77 := hf
      have hS : wS E s mm H locs := hS
      have hl : lv_has ls 12 [(0, .ref x0), (1, .int x1), (2, .int x2), (3, .int x3), (4, .int x4), (5, .int x5), (6, .int x6), (7, .int x7), (8, .int x8), (9, .int x9), (10, .int x10)] := hl
      unfold fX12_span_b77 at hf
      have hj157 : ∀ (x7 : Int32) (x8 : Int32) (x10 : Int32) (s0 : Int32) (s1 : Int32) (mm : Mem) (H : Heap) (locs : List Loc) (ls : Array Slot), fX12_span_j157 (eS E) x0 x1 x2 x3 x4 x5 x6 x7 x8 x10 s0 s1 mm = some y77 → wS E s mm H locs → lv_has ls 12 [(0, .ref x0), (1, .int x1), (2, .int x2), (3, .int x3), (4, .int x4), (5, .int x5), (6, .int x6), (7, .int x7), (8, .int x8), (10, .int x10)] → W p l e R s m args below meth c H locs 0 0 Q (F0 m 157 ls [.int s1, .int s0]) := by
        intro x7 x8 x10 s0 s1 mm H locs ls hf hS hl
        unfold fX12_span_j157 at hf
        refine lv_iadd hx hb dX12_span_157 ?_
        refine lv_topi (fun x9_10 e1 => ?_)
        have hf := lt1_n e1 hf
        refine lv_istore (lv' := [(9, .int x9_10), (0, .ref x0), (1, .int x1), (2, .int x2), (3, .int x3), (4, .int x4), (5, .int x5), (6, .int x6), (7, .int x7), (8, .int x8), (10, .int x10)]) hx hb dX12_span_158 hl (by decide) rfl (fun ls hl => ?_)
        obtain ⟨x10_11, e1⟩ : ∃ z : Int32, z = x10 + 1 := ⟨_, rfl⟩
        have hf := lt1_n e1 hf
        refine lv_iinc (v := x10_11) (lv' := [(10, .int x10_11), (9, .int x9_10), (0, .ref x0), (1, .int x1), (2, .int x2), (3, .int x3), (4, .int x4), (5, .int x5), (6, .int x6), (7, .int x7), (8, .int x8)]) hx hb dX12_span_160 hl (k := 10) rfl (by rw [e1]; rfl) (by decide) rfl (fun ls hl => ?_)
        refine lv_goto (tgt := 77) hx hb dX12_span_163 (by decide) ?_
        exact hyL77 _ (Option.some.inj hf).symm H locs ls hS (lv_sub hl [2, 3, 4, 5, 6, 7, 8, 9, 10, 1, 0] rfl)
      have hj139 : ∀ (x7 : Int32) (x9 : Int32) (x10 : Int32) (s0 : Int32) (mm : Mem) (H : Heap) (locs : List Loc) (ls : Array Slot), fX12_span_j139 (eS E) x0 x1 x2 x3 x4 x5 x6 x7 x9 x10 s0 mm = some y77 → wS E s mm H locs → lv_has ls 12 [(0, .ref x0), (1, .int x1), (2, .int x2), (3, .int x3), (4, .int x4), (5, .int x5), (6, .int x6), (7, .int x7), (9, .int x9), (10, .int x10)] → W p l e R s m args below meth c H locs 0 0 Q (F0 m 139 ls [.int s0]) := by
        intro x7 x9 x10 s0 mm H locs ls hf hS hl
        unfold fX12_span_j139 at hf
        refine lv_topi (fun x8_12 e1 => ?_)
        have hf := lt1_n e1 hf
        refine lv_istore (lv' := [(8, .int x8_12), (0, .ref x0), (1, .int x1), (2, .int x2), (3, .int x3), (4, .int x4), (5, .int x5), (6, .int x6), (7, .int x7), (9, .int x9), (10, .int x10)]) hx hb dX12_span_139 hl (by decide) rfl (fun ls hl => ?_)
        refine lv_iload hx hb dX12_span_141 (lv_at hl 9 rfl) ?_
        refine lv_aload_n hx hb dX12_span_143 rfl (lv_at hl 1 rfl) ?_
        refine lv_iload hx hb dX12_span_144 (lv_at hl 7 rfl) ?_
        obtain ⟨u0, h0, hf⟩ := bs hf
        obtain ⟨_, hrc⟩ := isO_n h0
        obtain ⟨v13, h1, hf⟩ := bs hf
        refine am_endi hS (am_runV (As := [.int x6]) X (hml.trans hl.1.symm) hS (cX12_withinOf_ok (l := l) (E := E) h1) mv_X12_328 hrc rfl ⟨Nat.le_trans (by decide) hR.1, Nat.le_trans (by decide) hR.2⟩ ⟨Nat.zero_le _, Nat.zero_le _⟩ rfl rfl (Nat.le_of_ble_eq_true rfl) dX12_span_146) (fun H locs hS => ?_)
        refine lv_if_le (tgt := 156) hx hb dX12_span_149 (by decide) (fun q14 => ?_) (fun q14 => ?_)
        · have hf := ifp hf q14
          refine lv_iconst (v := 0) hx hb dX12_span_156 (by decide) ?_
          exact hj157 x7 x8_12 x10 x9 0 mm H locs ls hf hS (lv_sub hl [1, 2, 3, 4, 5, 6, 7, 8, 0, 10] rfl)
        · have hf := ifn hf q14
          refine lv_iconst (v := 1) hx hb dX12_span_152 (by decide) ?_
          refine lv_goto (tgt := 157) hx hb dX12_span_153 (by decide) ?_
          exact hj157 x7 x8_12 x10 x9 1 mm H locs ls hf hS (lv_sub hl [1, 2, 3, 4, 5, 6, 7, 8, 0, 10] rfl)
      have hj123 : ∀ (x8 : Int32) (x9 : Int32) (x10 : Int32) (x11 : Int32) (s0 : Int32) (mm : Mem) (H : Heap) (locs : List Loc) (ls : Array Slot), fX12_span_j123 (eS E) x0 x1 x2 x3 x4 x5 x6 x8 x9 x10 x11 s0 mm = some y77 → wS E s mm H locs → lv_has ls 12 [(0, .ref x0), (1, .int x1), (2, .int x2), (3, .int x3), (4, .int x4), (5, .int x5), (6, .int x6), (8, .int x8), (9, .int x9), (10, .int x10), (11, .int x11)] → W p l e R s m args below meth c H locs 0 0 Q (F0 m 123 ls [.int s0]) := by
        intro x8 x9 x10 x11 s0 mm H locs ls hf hS hl
        unfold fX12_span_j123 at hf
        refine lv_topi (fun x7_15 e1 => ?_)
        have hf := lt1_n e1 hf
        refine lv_istore (lv' := [(7, .int x7_15), (0, .ref x0), (1, .int x1), (2, .int x2), (3, .int x3), (4, .int x4), (5, .int x5), (6, .int x6), (8, .int x8), (9, .int x9), (10, .int x10), (11, .int x11)]) hx hb dX12_span_123 hl (by decide) rfl (fun ls hl => ?_)
        refine lv_iload hx hb dX12_span_125 (lv_at hl 11 rfl) ?_
        refine lv_iload hx hb dX12_span_127 (lv_at hl 8 rfl) ?_
        refine lv_icmp_le (tgt := 137) hx hb dX12_span_129 (by decide) (fun q16 => ?_) (fun q16 => ?_)
        · have hf := ifp hf q16
          refine lv_iload hx hb dX12_span_137 (lv_at hl 8 rfl) ?_
          exact hj139 x7_15 x9 x10 x8 mm H locs ls hf hS (lv_sub hl [1, 2, 3, 4, 5, 6, 7, 0, 9, 10] rfl)
        · have hf := ifn hf q16
          refine lv_iload hx hb dX12_span_132 (lv_at hl 11 rfl) ?_
          refine lv_goto (tgt := 139) hx hb dX12_span_134 (by decide) ?_
          exact hj139 x7_15 x9 x10 x11 mm H locs ls hf hS (lv_sub hl [1, 2, 3, 4, 5, 6, 7, 0, 9, 10] rfl)
      have hj116 : ∀ (x8 : Int32) (x9 : Int32) (x10 : Int32) (x11 : Int32) (mm : Mem) (H : Heap) (locs : List Loc) (ls : Array Slot), fX12_span_j116 (eS E) x0 x1 x2 x3 x4 x5 x6 x8 x9 x10 x11 mm = some y77 → wS E s mm H locs → lv_has ls 12 [(0, .ref x0), (1, .int x1), (2, .int x2), (3, .int x3), (4, .int x4), (5, .int x5), (6, .int x6), (8, .int x8), (9, .int x9), (10, .int x10), (11, .int x11)] → W p l e R s m args below meth c H locs 0 0 Q (F0 m 116 ls []) := by
        intro x8 x9 x10 x11 mm H locs ls hf hS hl
        unfold fX12_span_j116 at hf
        refine lv_iload hx hb dX12_span_116 (lv_at hl 10 rfl) ?_
        refine lv_goto (tgt := 123) hx hb dX12_span_118 (by decide) ?_
        exact hj123 x8 x9 x10 x11 x11 mm H locs ls hf hS hl
      refine lv_iload hx hb dX12_span_77 (lv_at hl 10 rfl) ?_
      refine lv_iload_n hx hb dX12_span_79 rfl (lv_at hl 2 rfl) ?_
      refine lv_icmp_ge (tgt := 166) hx hb dX12_span_80 (by decide) (fun q17 => ?_) (fun q17 => ?_)
      · have hf := ifp hf q17
        obtain rfl : (x7, x8, x9, mm) = ex77 := hyR77 _ (Option.some.inj hf).symm
        exact hj166 x5 x7 x8 x9 mm H locs ls hk77 hS (lv_sub hl [5, 7, 8, 9] rfl)
      · have hf := ifn hf q17
        refine lv_aload_n hx hb dX12_span_83 rfl (lv_at hl 0 rfl) ?_
        refine lv_iload_n hx hb dX12_span_84 rfl (lv_at hl 1 rfl) ?_
        refine lv_iload hx hb dX12_span_85 (lv_at hl 10 rfl) ?_
        refine lv_iadd hx hb dX12_span_87 ?_
        refine lv_iload_n hx hb dX12_span_88 rfl (lv_at hl 3 rfl) ?_
        refine lv_iload hx hb dX12_span_89 (lv_at hl 4 rfl) ?_
        obtain ⟨u0, h0, hf⟩ := bs hf
        obtain ⟨_, hrc⟩ := isO_n h0
        obtain ⟨m18, h1, hf⟩ := bs hf
        refine am_endv hS (am_runV (As := [.int (x1 + x10), .int x3, .int x4]) X (hml.trans hl.1.symm) hS (cX12_termGoes_ok (l := l) (E := E) h1) mv_X12_460 hrc rfl ⟨Nat.le_trans (by decide) hR.1, Nat.le_trans (by decide) hR.2⟩ ⟨Nat.zero_le _, Nat.zero_le _⟩ rfl rfl (Nat.le_of_ble_eq_true rfl) dX12_span_91) (fun H locs hS => ?_)
        refine lv_aload_n hx hb dX12_span_94 rfl (lv_at hl 0 rfl) ?_
        refine lv_iconst (v := 0) hx hb dX12_span_95 (by decide) ?_
        refine lv_bipush (v := 42) hx hb dX12_span_96 (by decide) ?_
        obtain ⟨u0, h0, hf⟩ := bs hf
        obtain ⟨_, hrc⟩ := isO_n h0
        obtain ⟨v19, h1, hf⟩ := bs hf
        refine am_endi hS (am_runV (As := [.int 0, .int 42]) X (hml.trans hl.1.symm) hS (cX12_sumOf_ok (l := l) (E := E) h1) mv_X12_322 hrc rfl ⟨Nat.le_trans (by decide) hR.1, Nat.le_trans (by decide) hR.2⟩ ⟨Nat.zero_le _, Nat.zero_le _⟩ rfl rfl (Nat.le_of_ble_eq_true rfl) dX12_span_98) (fun H locs hS => ?_)
        refine lv_topi (fun x11_20 e1 => ?_)
        have hf := lt1_n e1 hf
        refine lv_istore (lv' := [(11, .int x11_20), (0, .ref x0), (1, .int x1), (2, .int x2), (3, .int x3), (4, .int x4), (5, .int x5), (6, .int x6), (7, .int x7), (8, .int x8), (9, .int x9), (10, .int x10)]) hx hb dX12_span_101 hl (by decide) rfl (fun ls hl => ?_)
        refine lv_iload hx hb dX12_span_103 (lv_at hl 8 rfl) ?_
        refine lv_iconst (v := (-1)) hx hb dX12_span_105 (by decide) ?_
        refine lv_icmp_eq (tgt := 116) hx hb dX12_span_106 (by decide) (fun q21 => ?_) (fun q21 => ?_)
        · have hf := ifp hf q21
          exact hj116 x8 x9 x10 x11_20 m18 H locs ls hf hS (lv_sub hl [1, 2, 3, 4, 5, 6, 7, 9, 10, 11, 0] rfl)
        · have hf := ifn hf q21
          refine lv_iload hx hb dX12_span_109 (lv_at hl 0 rfl) ?_
          refine lv_iload hx hb dX12_span_111 (lv_at hl 8 rfl) ?_
          refine lv_icmp_ge (tgt := 121) hx hb dX12_span_113 (by decide) (fun q22 => ?_) (fun q22 => ?_)
          · have hf := ifp hf q22
            refine lv_iload hx hb dX12_span_121 (lv_at hl 8 rfl) ?_
            exact hj123 x8 x9 x10 x11_20 x7 m18 H locs ls hf hS (lv_sub hl [1, 2, 3, 4, 5, 6, 7, 9, 10, 11, 0] rfl)
          · have hf := ifn hf q22
            exact hj116 x8 x9 x10 x11_20 m18 H locs ls hf hS (lv_sub hl [1, 2, 3, 4, 5, 6, 7, 9, 10, 11, 0] rfl)
    · have hf := ifp hf q5
      refine lv_iconst (v := 0) hx hb dX12_span_63 (by decide) ?_
      cases hf
      exact hret _ _ _ _ rfl dX12_span_64 hS
  have hj54 : ∀ (x0 : Nat) (x1 : Int32) (x2 : Int32) (x3 : Int32) (x4 : Int32) (x5 : Int32) (x6 : Int32) (s0 : Nat) (mm : Mem) (H : Heap) (locs : List Loc) (ls : Array Slot), fX12_span_j54 (eS E) x0 x1 x2 x3 x4 x5 x6 s0 mm = some (r, mm1) → wS E s mm H locs → lv_has ls 12 [(0, .ref x0), (1, .int x1), (2, .int x2), (3, .int x3), (4, .int x4), (5, .int x5), (6, .int x6)] → W p l e R s m args below meth c H locs 0 0 Q (F0 m 54 ls [.ref s0]) := by
    intro x0 x1 x2 x3 x4 x5 x6 s0 mm H locs ls hf hS hl
    unfold fX12_span_j54 at hf
    refine lv_iconst (v := 0) hx hb dX12_span_54 (by decide) ?_
    exact hj55 x0 x1 x2 x3 x4 x5 x6 s0 0 mm H locs ls hf hS hl
  intro H locs ls hS hl
  refine lv_aload_n hx hb dX12_span_0 rfl (lv_at hl 0 rfl) ?_
  refine lv_iconst (v := 0) hx hb dX12_span_1 (by decide) ?_
  obtain ⟨m23, h1, hf⟩ := bs hf
  refine am_pi X hS fp_X12_3 rfl h1 dX12_span_2 (fun H locs hS => ?_)
  refine lv_aload_n hx hb dX12_span_5 rfl (lv_at hl 0 rfl) ?_
  refine lv_iload_n hx hb dX12_span_6 rfl (lv_at hl 2 rfl) ?_
  refine lv_iconst (v := 1) hx hb dX12_span_7 (by decide) ?_
  refine lv_bipush (v := 10) hx hb dX12_span_8 (by decide) ?_
  obtain ⟨v24, h1, hf⟩ := bs hf
  refine am_endi hS (am_runS (As := [.int x2, .int 1, .int 10]) X (hml.trans hl.1.symm) hS (cX12_within_ok (l := l) (E := E) h1) ms_X12_368 ⟨Nat.le_trans (by decide) hR.1, Nat.le_trans (by decide) hR.2⟩ ⟨Nat.zero_le _, Nat.zero_le _⟩ rfl rfl (Nat.le_of_ble_eq_true rfl) dX12_span_10) (fun H locs hS => ?_)
  refine lv_if_eq (tgt := 54) hx hb dX12_span_13 (by decide) (fun q25 => ?_) (fun q25 => ?_)
  · have hf := ifp hf q25
    exact hj54 x0 x1 x2 x3 x4 x5 x6 x0 m23 H locs ls hf hS hl
  · have hf := ifn hf q25
    refine lv_iload_n hx hb dX12_span_16 rfl (lv_at hl 3 rfl) ?_
    refine lv_iload hx hb dX12_span_17 (lv_at hl 4 rfl) ?_
    obtain ⟨v26, h1, hf⟩ := bs hf
    refine am_endi hS (am_runS (As := [.int x3, .int x4]) X (hml.trans hl.1.symm) hS (cX12_isTerm_ok (l := l) (E := E) h1) ms_X12_457 ⟨Nat.le_trans (by decide) hR.1, Nat.le_trans (by decide) hR.2⟩ ⟨Nat.zero_le _, Nat.zero_le _⟩ rfl rfl (Nat.le_of_ble_eq_true rfl) dX12_span_19) (fun H locs hS => ?_)
    refine lv_if_eq (tgt := 54) hx hb dX12_span_22 (by decide) (fun q27 => ?_) (fun q27 => ?_)
    · have hf := ifp hf q27
      exact hj54 x0 x1 x2 x3 x4 x5 x6 x0 m23 H locs ls hf hS hl
    · have hf := ifn hf q27
      refine lv_iload hx hb dX12_span_25 (lv_at hl 5 rfl) ?_
      refine lv_iconst (v := 0) hx hb dX12_span_27 (by decide) ?_
      refine lv_iconst (v := 2) hx hb dX12_span_28 (by decide) ?_
      obtain ⟨v28, h1, hf⟩ := bs hf
      refine am_endi hS (am_runS (As := [.int x5, .int 0, .int 2]) X (hml.trans hl.1.symm) hS (cX12_within_ok (l := l) (E := E) h1) ms_X12_368 ⟨Nat.le_trans (by decide) hR.1, Nat.le_trans (by decide) hR.2⟩ ⟨Nat.zero_le _, Nat.zero_le _⟩ rfl rfl (Nat.le_of_ble_eq_true rfl) dX12_span_29) (fun H locs hS => ?_)
      refine lv_if_eq (tgt := 54) hx hb dX12_span_32 (by decide) (fun q29 => ?_) (fun q29 => ?_)
      · have hf := ifp hf q29
        exact hj54 x0 x1 x2 x3 x4 x5 x6 x0 m23 H locs ls hf hS hl
      · have hf := ifn hf q29
        refine lv_iload hx hb dX12_span_35 (lv_at hl 6 rfl) ?_
        refine lv_iconst (v := 0) hx hb dX12_span_37 (by decide) ?_
        refine lv_aload_n hx hb dX12_span_38 rfl (lv_at hl 0 rfl) ?_
        obtain ⟨v30, h1, hf⟩ := bs hf
        refine am_gi X hS fl_X12_150 rfl h1 dX12_span_39 ?_
        refine lv_iconst (v := 1) hx hb dX12_span_42 (by decide) ?_
        refine lv_isub hx hb dX12_span_43 ?_
        obtain ⟨v31, h1, hf⟩ := bs hf
        refine am_endi hS (am_runS (As := [.int x6, .int 0, .int (v30 - 1)]) X (hml.trans hl.1.symm) hS (cX12_within_ok (l := l) (E := E) h1) ms_X12_368 ⟨Nat.le_trans (by decide) hR.1, Nat.le_trans (by decide) hR.2⟩ ⟨Nat.zero_le _, Nat.zero_le _⟩ rfl rfl (Nat.le_of_ble_eq_true rfl) dX12_span_44) (fun H locs hS => ?_)
        refine lv_if_eq (tgt := 54) hx hb dX12_span_47 (by decide) (fun q32 => ?_) (fun q32 => ?_)
        · have hf := ifp hf q32
          exact hj54 x0 x1 x2 x3 x4 x5 x6 x0 m23 H locs ls hf hS hl
        · have hf := ifn hf q32
          refine lv_iconst (v := 1) hx hb dX12_span_50 (by decide) ?_
          refine lv_goto (tgt := 55) hx hb dX12_span_51 (by decide) ?_
          exact hj55 x0 x1 x2 x3 x4 x5 x6 x0 1 m23 H locs ls hf hS hl
set_option maxRecDepth 100000 in
theorem cX12_span_ok {l : Launch} {E : Ev} {x0 : Nat} {x1 : Int32} {x2 : Int32} {x3 : Int32} {x4 : Int32} {x5 : Int32} {x6 : Int32} {mm : Mem} {r : Int32} {mm1 : Mem} (hf : fX12_span (eS E) x0 x1 x2 x3 x4 x5 x6 mm = some (r, mm1)) : CtI l yX12_span cX12_span 12 (some .int) 8 195 E [.ref x0, .int x1, .int x2, .int x3, .int x4, .int x5, .int x6] mm r mm1 := by
  refine Met.ofW (cc := cX12_span) (maxL := 12) (ret := (some .int)) (by decide) rfl ?_
  intro p e s m args below meth c s₁ B hml hv
  obtain ⟨rfl, X, hS, hr, hlocks⟩ := am_in B hv
  refine am_entry (Nat.le_of_ble_eq_true rfl) (fun ls hl => ?_)
  exact wX12_span X hml ⟨Nat.le_refl _, Nat.le_refl _⟩ hf (fun pc H locs ls hn hd hS => am_ri X hS hr hn hd hlocks) _ _ ls hS hl
set_option maxHeartbeats 4000000 in
set_option maxRecDepth 100000 in
theorem wX12_keepsRow {p : Program} {l : Launch} {e : Env} {R : Room} {s : State} {m : MethodId} {args : Array Value} {below : List Frame} {meth : Method} {c : Code} {Q : State → Prop} {E : Ev} (X : Cx p s m args c cX12_keepsRow RX12 E) (hml : c.maxLocals = 6) (hR : 0 ≤ R.frames ∧ 0 ≤ R.locals) {x0 : Nat} {x1 : Int32} {x2 : Nat} {x3 : Int32} {x4 : Int32} {mm : Mem} {r : Int32} {mm1 : Mem} (hf : fX12_keepsRow (eS E) x0 x1 x2 x3 x4 mm = some (r, mm1)) (hret : ∀ (pc : Nat) (H : Heap) (locs : List Loc) (ls : Array Slot), narrow .int (.int r) = .int r → decode cX12_keepsRow pc = .ok (.ireturn, 1) → wS E s mm1 H locs → W p l e R s m args below meth c H locs 0 0 Q (F0 m pc ls [.int r])) : ∀ (H : Heap) (locs : List Loc) (ls : Array Slot), wS E s mm H locs → lv_has ls 6 [(0, .ref x0), (1, .int x1), (2, .ref x2), (3, .int x3), (4, .int x4)] → W p l e R s m args below meth c H locs 0 0 Q (F0 m 0 ls []) := by
  have hx := X.1
  have hb := X.2.1
  unfold fX12_keepsRow at hf
  have hj49 : ∀ (x1 : Int32) (x3 : Int32) (mm : Mem) (H : Heap) (locs : List Loc) (ls : Array Slot), fX12_keepsRow_j49 (eS E) x1 x3 mm = some (r, mm1) → wS E s mm H locs → lv_has ls 6 [(1, .int x1), (3, .int x3)] → W p l e R s m args below meth c H locs 0 0 Q (F0 m 49 ls []) := by
    intro x1 x3 mm H locs ls hf hS hl
    unfold fX12_keepsRow_j49 at hf
    refine lv_iload_n hx hb dX12_keepsRow_49 rfl (lv_at hl 0 rfl) ?_
    refine lv_iload_n hx hb dX12_keepsRow_50 rfl (lv_at hl 1 rfl) ?_
    refine lv_iadd hx hb dX12_keepsRow_51 ?_
    cases hf
    exact hret _ _ _ _ rfl dX12_keepsRow_52 hS
  intro H locs ls hS hl
  refine lv_iconst (v := 0) hx hb dX12_keepsRow_0 (by decide) ?_
  refine lv_topi (fun x5_1 e1 => ?_)
  have hf := lt1_n e1 hf
  refine lv_istore (lv' := [(5, .int x5_1), (0, .ref x0), (1, .int x1), (2, .ref x2), (3, .int x3), (4, .int x4)]) hx hb dX12_keepsRow_1 hl (by decide) rfl (fun ls hl => ?_)
  obtain ⟨ex3, hl3, hk3⟩ := bs hf
  refine loop_W (P := fun st => ∀ (H : Heap) (locs : List Loc) (ls : Array Slot), wS E s st.2 H locs → lv_has ls 6 [(0, .ref x0), (1, .int x1), (2, .ref x2), (3, .int x3), (4, .int x4), (5, .int st.1)] → W p l e R s m args below meth c H locs 0 0 Q (F0 m 3 ls [])) (ex := ex3) ?_ FU _ hl3 H locs ls hS (lv_sub hl [1, 2, 3, 4, 5, 0] rfl)
  intro st y3 hf hyL3 hyR3 H locs ls hS hl
  obtain ⟨x5, mm⟩ := st
  have hf : fX12_keepsRow_b3 (eS E) x0 x1 x2 x3 x4 x5 mm = some y3 := hf
  have hS : wS E s mm H locs := hS
  have hl : lv_has ls 6 [(0, .ref x0), (1, .int x1), (2, .ref x2), (3, .int x3), (4, .int x4), (5, .int x5)] := hl
  unfold fX12_keepsRow_b3 at hf
  have hj43 : ∀ (x5 : Int32) (mm : Mem) (H : Heap) (locs : List Loc) (ls : Array Slot), fX12_keepsRow_j43 (eS E) x0 x1 x2 x3 x4 x5 mm = some y3 → wS E s mm H locs → lv_has ls 6 [(0, .ref x0), (1, .int x1), (2, .ref x2), (3, .int x3), (4, .int x4), (5, .int x5)] → W p l e R s m args below meth c H locs 0 0 Q (F0 m 43 ls []) := by
    intro x5 mm H locs ls hf hS hl
    unfold fX12_keepsRow_j43 at hf
    obtain ⟨x5_2, e1⟩ : ∃ z : Int32, z = x5 + 1 := ⟨_, rfl⟩
    have hf := lt1_n e1 hf
    refine lv_iinc (v := x5_2) (lv' := [(5, .int x5_2), (0, .ref x0), (1, .int x1), (2, .ref x2), (3, .int x3), (4, .int x4)]) hx hb dX12_keepsRow_43 hl (k := 5) rfl (by rw [e1]; rfl) (by decide) rfl (fun ls hl => ?_)
    refine lv_goto (tgt := 3) hx hb dX12_keepsRow_46 (by decide) ?_
    exact hyL3 _ (Option.some.inj hf).symm H locs ls hS (lv_sub hl [1, 2, 3, 4, 5, 0] rfl)
  refine lv_iload hx hb dX12_keepsRow_3 (lv_at hl 5 rfl) ?_
  refine lv_iload_n hx hb dX12_keepsRow_5 rfl (lv_at hl 3 rfl) ?_
  refine lv_icmp_ge (tgt := 49) hx hb dX12_keepsRow_6 (by decide) (fun q3 => ?_) (fun q3 => ?_)
  · have hf := ifp hf q3
    obtain rfl : mm = ex3 := hyR3 _ (Option.some.inj hf).symm
    exact hj49 x1 x3 mm H locs ls hk3 hS (lv_sub hl [1, 3] rfl)
  · have hf := ifn hf q3
    refine lv_iload hx hb dX12_keepsRow_9 (lv_at hl 4 rfl) ?_
    refine lv_if_eq (tgt := 30) hx hb dX12_keepsRow_11 (by decide) (fun q4 => ?_) (fun q4 => ?_)
    · have hf := ifp hf q4
      refine lv_aload_n hx hb dX12_keepsRow_30 rfl (lv_at hl 2 rfl) ?_
      refine lv_iload hx hb dX12_keepsRow_31 (lv_at hl 5 rfl) ?_
      refine lv_aload_n hx hb dX12_keepsRow_33 rfl (lv_at hl 0 rfl) ?_
      obtain ⟨a5, h1, hf⟩ := bs hf
      refine am_gr X hS fl_X12_86 rfl h1 dX12_keepsRow_34 ?_
      refine lv_iload_n hx hb dX12_keepsRow_37 rfl (lv_at hl 1 rfl) ?_
      refine lv_iload hx hb dX12_keepsRow_38 (lv_at hl 5 rfl) ?_
      refine lv_iadd hx hb dX12_keepsRow_40 ?_
      obtain ⟨v6, h1, hf⟩ := bs hf
      refine am_ald X hS h1 dX12_keepsRow_41 ?_
      obtain ⟨m7, h1, hf⟩ := bs hf
      refine am_ast X hS h1 dX12_keepsRow_42 (fun H locs hS => ?_)
      exact hj43 x5 m7 H locs ls hf hS hl
    · have hf := ifn hf q4
      refine lv_aload_n hx hb dX12_keepsRow_14 rfl (lv_at hl 0 rfl) ?_
      obtain ⟨a8, h1, hf⟩ := bs hf
      refine am_gr X hS fl_X12_86 rfl h1 dX12_keepsRow_15 ?_
      refine lv_iload_n hx hb dX12_keepsRow_18 rfl (lv_at hl 1 rfl) ?_
      refine lv_iload hx hb dX12_keepsRow_19 (lv_at hl 5 rfl) ?_
      refine lv_iadd hx hb dX12_keepsRow_21 ?_
      refine lv_aload_n hx hb dX12_keepsRow_22 rfl (lv_at hl 2 rfl) ?_
      refine lv_iload hx hb dX12_keepsRow_23 (lv_at hl 5 rfl) ?_
      obtain ⟨v9, h1, hf⟩ := bs hf
      refine am_ald X hS h1 dX12_keepsRow_25 ?_
      obtain ⟨m10, h1, hf⟩ := bs hf
      refine am_ast X hS h1 dX12_keepsRow_26 (fun H locs hS => ?_)
      refine lv_goto (tgt := 43) hx hb dX12_keepsRow_27 (by decide) ?_
      exact hj43 x5 m10 H locs ls hf hS hl
set_option maxRecDepth 100000 in
theorem cX12_keepsRow_ok {l : Launch} {E : Ev} {x0 : Nat} {x1 : Int32} {x2 : Nat} {x3 : Int32} {x4 : Int32} {mm : Mem} {r : Int32} {mm1 : Mem} (hf : fX12_keepsRow (eS E) x0 x1 x2 x3 x4 mm = some (r, mm1)) : CtI l yX12_keepsRow cX12_keepsRow 6 (some .int) 0 0 E [.ref x0, .int x1, .ref x2, .int x3, .int x4] mm r mm1 := by
  refine Met.ofW (cc := cX12_keepsRow) (maxL := 6) (ret := (some .int)) (by decide) rfl ?_
  intro p e s m args below meth c s₁ B hml hv
  obtain ⟨rfl, X, hS, hr, hlocks⟩ := am_in B hv
  refine am_entry (Nat.le_of_ble_eq_true rfl) (fun ls hl => ?_)
  exact wX12_keepsRow X hml ⟨Nat.le_refl _, Nat.le_refl _⟩ hf (fun pc H locs ls hn hd hS => am_ri X hS hr hn hd hlocks) _ _ ls hS hl
set_option maxHeartbeats 4000000 in
set_option maxRecDepth 100000 in
theorem wX12_keepsAll {p : Program} {l : Launch} {e : Env} {R : Room} {s : State} {m : MethodId} {args : Array Value} {below : List Frame} {meth : Method} {c : Code} {Q : State → Prop} {E : Ev} (X : Cx p s m args c cX12_keepsAll RX12 E) (hml : c.maxLocals = 4) (hR : 1 ≤ R.frames ∧ 25 ≤ R.locals) {x0 : Nat} {x1 : Int32} {x2 : Int32} {mm : Mem} {mm1 : Mem} (hf : fX12_keepsAll (eS E) x0 x1 x2 mm = some mm1) (hret : ∀ (pc : Nat) (H : Heap) (locs : List Loc) (ls : Array Slot), decode cX12_keepsAll pc = .ok (.return_, 1) → wS E s mm1 H locs → W p l e R s m args below meth c H locs 0 0 Q (F0 m pc ls [])) : ∀ (H : Heap) (locs : List Loc) (ls : Array Slot), wS E s mm H locs → lv_has ls 4 [(0, .ref x0), (1, .int x1), (2, .int x2)] → W p l e R s m args below meth c H locs 0 0 Q (F0 m 0 ls []) := by
  have hx := X.1
  have hb := X.2.1
  unfold fX12_keepsAll at hf
  have hj59 : ∀ (mm : Mem) (H : Heap) (locs : List Loc) (ls : Array Slot), fX12_keepsAll_j59 (eS E) mm = some mm1 → wS E s mm H locs → lv_has ls 4 [] → W p l e R s m args below meth c H locs 0 0 Q (F0 m 59 ls []) := by
    intro mm H locs ls hf hS hl
    unfold fX12_keepsAll_j59 at hf
    cases hf
    exact hret _ _ _ _ dX12_keepsAll_59 hS
  intro H locs ls hS hl
  refine lv_aload_n hx hb dX12_keepsAll_0 rfl (lv_at hl 0 rfl) ?_
  refine lv_sipush (v := 2976) hx hb dX12_keepsAll_1 (by decide) ?_
  refine lv_iload_n hx hb dX12_keepsAll_4 rfl (lv_at hl 1 rfl) ?_
  refine lv_imul hx hb dX12_keepsAll_5 ?_
  refine lv_aload_n hx hb dX12_keepsAll_6 rfl (lv_at hl 0 rfl) ?_
  obtain ⟨a1, h1, hf⟩ := bs hf
  refine am_gr X hS fl_X12_59 rfl h1 dX12_keepsAll_7 ?_
  refine lv_sipush (v := 175) hx hb dX12_keepsAll_10 (by decide) ?_
  refine lv_iload_n hx hb dX12_keepsAll_13 rfl (lv_at hl 2 rfl) ?_
  obtain ⟨u0, h0, hf⟩ := bs hf
  obtain ⟨_, hrc⟩ := isO_n h0
  obtain ⟨v2, m3, h1, hf⟩ := bs2 hf
  refine am_endi hS (am_runV (As := [.int (2976 * x1), .ref a1, .int 175, .int x2]) X (hml.trans hl.1.symm) hS (cX12_keepsRow_ok (l := l) (E := E) h1) mv_X12_464 hrc rfl ⟨Nat.le_trans (by decide) hR.1, Nat.le_trans (by decide) hR.2⟩ ⟨Nat.zero_le _, Nat.zero_le _⟩ rfl rfl (Nat.le_of_ble_eq_true rfl) dX12_keepsAll_14) (fun H locs hS => ?_)
  refine lv_topi (fun x3_4 e1 => ?_)
  have hf := lt1_n e1 hf
  refine lv_istore_n (lv' := [(3, .int x3_4), (0, .ref x0), (1, .int x1), (2, .int x2)]) hx hb dX12_keepsAll_17 rfl hl (by decide) rfl (fun ls hl => ?_)
  refine lv_aload_n hx hb dX12_keepsAll_18 rfl (lv_at hl 1 rfl) ?_
  refine lv_iload_n hx hb dX12_keepsAll_19 rfl (lv_at hl 0 rfl) ?_
  refine lv_aload_n hx hb dX12_keepsAll_20 rfl (lv_at hl 1 rfl) ?_
  obtain ⟨a5, h1, hf⟩ := bs hf
  refine am_gr X hS fl_X12_65 rfl h1 dX12_keepsAll_21 ?_
  refine lv_sipush (v := 2800) hx hb dX12_keepsAll_24 (by decide) ?_
  refine lv_iload_n hx hb dX12_keepsAll_27 rfl (lv_at hl 3 rfl) ?_
  obtain ⟨u0, h0, hf⟩ := bs hf
  obtain ⟨_, hrc⟩ := isO_n h0
  obtain ⟨v6, m7, h1, hf⟩ := bs2 hf
  refine am_endi hS (am_runV (As := [.int x3_4, .ref a5, .int 2800, .int x2]) X (hml.trans hl.1.symm) hS (cX12_keepsRow_ok (l := l) (E := E) h1) mv_X12_464 hrc rfl ⟨Nat.le_trans (by decide) hR.1, Nat.le_trans (by decide) hR.2⟩ ⟨Nat.zero_le _, Nat.zero_le _⟩ rfl rfl (Nat.le_of_ble_eq_true rfl) dX12_keepsAll_28) (fun H locs hS => ?_)
  refine lv_topi (fun x3_8 e1 => ?_)
  have hf := lt1_n e1 hf
  refine lv_istore_n (lv' := [(3, .int x3_8), (0, .ref x0), (1, .int x1), (2, .int x2)]) hx hb dX12_keepsAll_31 rfl hl (by decide) rfl (fun ls hl => ?_)
  refine lv_iload_n hx hb dX12_keepsAll_32 rfl (lv_at hl 3 rfl) ?_
  refine lv_if_eq (tgt := 49) hx hb dX12_keepsAll_33 (by decide) (fun q9 => ?_) (fun q9 => ?_)
  · have hf := ifp hf q9
    refine lv_aload_n hx hb dX12_keepsAll_49 rfl (lv_at hl 1 rfl) ?_
    refine lv_aload_n hx hb dX12_keepsAll_50 rfl (lv_at hl 1 rfl) ?_
    obtain ⟨a10, h1, hf⟩ := bs hf
    refine am_gr X hS fl_X12_86 rfl h1 dX12_keepsAll_51 ?_
    refine lv_iload_n hx hb dX12_keepsAll_54 rfl (lv_at hl 0 rfl) ?_
    obtain ⟨v11, h1, hf⟩ := bs hf
    refine am_ald X hS h1 dX12_keepsAll_55 ?_
    obtain ⟨m12, h1, hf⟩ := bs hf
    refine am_pi X hS fp_X12_169 rfl h1 dX12_keepsAll_56 (fun H locs hS => ?_)
    exact hj59 m12 H locs ls hf hS (lv_sub hl [] rfl)
  · have hf := ifn hf q9
    refine lv_aload_n hx hb dX12_keepsAll_36 rfl (lv_at hl 1 rfl) ?_
    obtain ⟨a13, h1, hf⟩ := bs hf
    refine am_gr X hS fl_X12_86 rfl h1 dX12_keepsAll_37 ?_
    refine lv_iload_n hx hb dX12_keepsAll_40 rfl (lv_at hl 0 rfl) ?_
    refine lv_aload_n hx hb dX12_keepsAll_41 rfl (lv_at hl 1 rfl) ?_
    obtain ⟨v14, h1, hf⟩ := bs hf
    refine am_gi X hS fl_X12_169 rfl h1 dX12_keepsAll_42 ?_
    obtain ⟨m15, h1, hf⟩ := bs hf
    refine am_ast X hS h1 dX12_keepsAll_45 (fun H locs hS => ?_)
    refine lv_goto (tgt := 59) hx hb dX12_keepsAll_46 (by decide) ?_
    exact hj59 m15 H locs ls hf hS (lv_sub hl [] rfl)
set_option maxRecDepth 100000 in
theorem cX12_keepsAll_ok {l : Launch} {E : Ev} {x0 : Nat} {x1 : Int32} {x2 : Int32} {mm : Mem} {mm1 : Mem} (hf : fX12_keepsAll (eS E) x0 x1 x2 mm = some mm1) : CtV l yX12_keepsAll cX12_keepsAll 4 none 1 25 E [.ref x0, .int x1, .int x2] mm mm1 := by
  refine Met.ofW (cc := cX12_keepsAll) (maxL := 4) (ret := none) (by decide) rfl ?_
  intro p e s m args below meth c s₁ B hml hv
  obtain ⟨rfl, X, hS, hr, hlocks⟩ := am_in B hv
  refine am_entry (Nat.le_of_ble_eq_true rfl) (fun ls hl => ?_)
  exact wX12_keepsAll X hml ⟨Nat.le_refl _, Nat.le_refl _⟩ hf (fun pc H locs ls hd hS => am_rv X hS hr hd hlocks) _ _ ls hS hl
set_option maxHeartbeats 4000000 in
set_option maxRecDepth 100000 in
theorem wX12_image {p : Program} {l : Launch} {e : Env} {R : Room} {s : State} {m : MethodId} {args : Array Value} {below : List Frame} {meth : Method} {c : Code} {Q : State → Prop} {E : Ev} (X : Cx p s m args c cX12_image RX12 E) (hml : c.maxLocals = 1) (hR : 2 ≤ R.frames ∧ 48 ≤ R.locals) {x0 : Nat} {mm : Mem} {r : Int32} {mm1 : Mem} (hf : fX12_image (eS E) x0 mm = some (r, mm1)) (hret : ∀ (pc : Nat) (H : Heap) (locs : List Loc) (ls : Array Slot), narrow .int (.int r) = .int r → decode cX12_image pc = .ok (.ireturn, 1) → wS E s mm1 H locs → W p l e R s m args below meth c H locs 0 0 Q (F0 m pc ls [.int r])) : ∀ (H : Heap) (locs : List Loc) (ls : Array Slot), wS E s mm H locs → lv_has ls 1 [(0, .ref x0)] → W p l e R s m args below meth c H locs 0 0 Q (F0 m 0 ls []) := by
  have hx := X.1
  have hb := X.2.1
  unfold fX12_image at hf
  intro H locs ls hS hl
  refine lv_aload_n hx hb dX12_image_0 rfl (lv_at hl 0 rfl) ?_
  refine lv_iconst (v := 0) hx hb dX12_image_1 (by decide) ?_
  obtain ⟨m1, h1, hf⟩ := bs hf
  refine am_pi X hS fp_X12_3 rfl h1 dX12_image_2 (fun H locs hS => ?_)
  refine lv_aload_n hx hb dX12_image_5 rfl (lv_at hl 0 rfl) ?_
  obtain ⟨v2, h1, hf⟩ := bs hf
  refine am_gi X hS fl_X12_172 rfl h1 dX12_image_6 ?_
  refine lv_iconst (v := 3) hx hb dX12_image_9 (by decide) ?_
  refine lv_icmp_ne (tgt := 15) hx hb dX12_image_10 (by decide) (fun q3 => ?_) (fun q3 => ?_)
  · have hf := ifn hf q3
    refine lv_aload_n hx hb dX12_image_15 rfl (lv_at hl 0 rfl) ?_
    refine lv_aload_n hx hb dX12_image_16 rfl (lv_at hl 0 rfl) ?_
    obtain ⟨v4, h1, hf⟩ := bs hf
    refine am_gi X hS fl_X12_172 rfl h1 dX12_image_17 ?_
    refine lv_iconst (v := 1) hx hb dX12_image_20 (by decide) ?_
    obtain ⟨u0, h0, hf⟩ := bs hf
    obtain ⟨_, hrc⟩ := isO_n h0
    obtain ⟨m5, h1, hf⟩ := bs hf
    refine am_endv hS (am_runV (As := [.int v4, .int 1]) X (hml.trans hl.1.symm) hS (cX12_keepsAll_ok (l := l) (E := E) h1) mv_X12_468 hrc rfl ⟨Nat.le_trans (by decide) hR.1, Nat.le_trans (by decide) hR.2⟩ ⟨Nat.zero_le _, Nat.zero_le _⟩ rfl rfl (Nat.le_of_ble_eq_true rfl) dX12_image_21) (fun H locs hS => ?_)
    refine lv_aload_n hx hb dX12_image_24 rfl (lv_at hl 0 rfl) ?_
    refine lv_dup hx hb dX12_image_25 rfl ?_
    obtain ⟨v6, h1, hf⟩ := bs hf
    refine am_gi X hS fl_X12_172 rfl h1 dX12_image_26 ?_
    refine lv_iconst (v := 1) hx hb dX12_image_29 (by decide) ?_
    refine lv_iadd hx hb dX12_image_30 ?_
    obtain ⟨m7, h1, hf⟩ := bs hf
    refine am_pi X hS fp_X12_172 rfl h1 dX12_image_31 (fun H locs hS => ?_)
    refine lv_aload_n hx hb dX12_image_34 rfl (lv_at hl 0 rfl) ?_
    obtain ⟨v8, h1, hf⟩ := bs hf
    refine am_gi X hS fl_X12_172 rfl h1 dX12_image_35 ?_
    cases hf
    exact hret _ _ _ _ rfl dX12_image_38 hS
  · have hf := ifp hf q3
    refine lv_iconst (v := (-1)) hx hb dX12_image_13 (by decide) ?_
    cases hf
    exact hret _ _ _ _ rfl dX12_image_14 hS
set_option maxRecDepth 100000 in
theorem cX12_image_ok {l : Launch} {E : Ev} {x0 : Nat} {mm : Mem} {r : Int32} {mm1 : Mem} (hf : fX12_image (eS E) x0 mm = some (r, mm1)) : CtI l yX12_image cX12_image 1 (some .int) 2 48 E [.ref x0] mm r mm1 := by
  refine Met.ofW (cc := cX12_image) (maxL := 1) (ret := (some .int)) (by decide) rfl ?_
  intro p e s m args below meth c s₁ B hml hv
  obtain ⟨rfl, X, hS, hr, hlocks⟩ := am_in B hv
  refine am_entry (Nat.le_of_ble_eq_true rfl) (fun ls hl => ?_)
  exact wX12_image X hml ⟨Nat.le_refl _, Nat.le_refl _⟩ hf (fun pc H locs ls hn hd hS => am_ri X hS hr hn hd hlocks) _ _ ls hS hl
set_option maxHeartbeats 4000000 in
set_option maxRecDepth 100000 in
theorem wX12_restore {p : Program} {l : Launch} {e : Env} {R : Room} {s : State} {m : MethodId} {args : Array Value} {below : List Frame} {meth : Method} {c : Code} {Q : State → Prop} {E : Ev} (X : Cx p s m args c cX12_restore RX12 E) (hml : c.maxLocals = 1) (hR : 2 ≤ R.frames ∧ 48 ≤ R.locals) {x0 : Nat} {mm : Mem} {r : Int32} {mm1 : Mem} (hf : fX12_restore (eS E) x0 mm = some (r, mm1)) (hret : ∀ (pc : Nat) (H : Heap) (locs : List Loc) (ls : Array Slot), narrow .int (.int r) = .int r → decode cX12_restore pc = .ok (.ireturn, 1) → wS E s mm1 H locs → W p l e R s m args below meth c H locs 0 0 Q (F0 m pc ls [.int r])) : ∀ (H : Heap) (locs : List Loc) (ls : Array Slot), wS E s mm H locs → lv_has ls 1 [(0, .ref x0)] → W p l e R s m args below meth c H locs 0 0 Q (F0 m 0 ls []) := by
  have hx := X.1
  have hb := X.2.1
  unfold fX12_restore at hf
  intro H locs ls hS hl
  refine lv_aload_n hx hb dX12_restore_0 rfl (lv_at hl 0 rfl) ?_
  refine lv_iconst (v := 0) hx hb dX12_restore_1 (by decide) ?_
  obtain ⟨m1, h1, hf⟩ := bs hf
  refine am_pi X hS fp_X12_3 rfl h1 dX12_restore_2 (fun H locs hS => ?_)
  refine lv_aload_n hx hb dX12_restore_5 rfl (lv_at hl 0 rfl) ?_
  obtain ⟨v2, h1, hf⟩ := bs hf
  refine am_gi X hS fl_X12_172 rfl h1 dX12_restore_6 ?_
  refine lv_if_ne (tgt := 14) hx hb dX12_restore_9 (by decide) (fun q3 => ?_) (fun q3 => ?_)
  · have hf := ifn hf q3
    refine lv_aload_n hx hb dX12_restore_14 rfl (lv_at hl 0 rfl) ?_
    refine lv_dup hx hb dX12_restore_15 rfl ?_
    obtain ⟨v4, h1, hf⟩ := bs hf
    refine am_gi X hS fl_X12_172 rfl h1 dX12_restore_16 ?_
    refine lv_iconst (v := 1) hx hb dX12_restore_19 (by decide) ?_
    refine lv_isub hx hb dX12_restore_20 ?_
    obtain ⟨m5, h1, hf⟩ := bs hf
    refine am_pi X hS fp_X12_172 rfl h1 dX12_restore_21 (fun H locs hS => ?_)
    refine lv_aload_n hx hb dX12_restore_24 rfl (lv_at hl 0 rfl) ?_
    refine lv_aload_n hx hb dX12_restore_25 rfl (lv_at hl 0 rfl) ?_
    obtain ⟨v6, h1, hf⟩ := bs hf
    refine am_gi X hS fl_X12_172 rfl h1 dX12_restore_26 ?_
    refine lv_iconst (v := 0) hx hb dX12_restore_29 (by decide) ?_
    obtain ⟨u0, h0, hf⟩ := bs hf
    obtain ⟨_, hrc⟩ := isO_n h0
    obtain ⟨m7, h1, hf⟩ := bs hf
    refine am_endv hS (am_runV (As := [.int v6, .int 0]) X (hml.trans hl.1.symm) hS (cX12_keepsAll_ok (l := l) (E := E) h1) mv_X12_468 hrc rfl ⟨Nat.le_trans (by decide) hR.1, Nat.le_trans (by decide) hR.2⟩ ⟨Nat.zero_le _, Nat.zero_le _⟩ rfl rfl (Nat.le_of_ble_eq_true rfl) dX12_restore_30) (fun H locs hS => ?_)
    refine lv_aload_n hx hb dX12_restore_33 rfl (lv_at hl 0 rfl) ?_
    refine lv_iconst (v := 0) hx hb dX12_restore_34 (by decide) ?_
    obtain ⟨m8, h1, hf⟩ := bs hf
    refine am_pi X hS fp_X12_175 rfl h1 dX12_restore_35 (fun H locs hS => ?_)
    refine lv_aload_n hx hb dX12_restore_38 rfl (lv_at hl 0 rfl) ?_
    obtain ⟨v9, h1, hf⟩ := bs hf
    refine am_gi X hS fl_X12_172 rfl h1 dX12_restore_39 ?_
    cases hf
    exact hret _ _ _ _ rfl dX12_restore_42 hS
  · have hf := ifp hf q3
    refine lv_iconst (v := (-1)) hx hb dX12_restore_12 (by decide) ?_
    cases hf
    exact hret _ _ _ _ rfl dX12_restore_13 hS
set_option maxRecDepth 100000 in
theorem cX12_restore_ok {l : Launch} {E : Ev} {x0 : Nat} {mm : Mem} {r : Int32} {mm1 : Mem} (hf : fX12_restore (eS E) x0 mm = some (r, mm1)) : CtI l yX12_restore cX12_restore 1 (some .int) 2 48 E [.ref x0] mm r mm1 := by
  refine Met.ofW (cc := cX12_restore) (maxL := 1) (ret := (some .int)) (by decide) rfl ?_
  intro p e s m args below meth c s₁ B hml hv
  obtain ⟨rfl, X, hS, hr, hlocks⟩ := am_in B hv
  refine am_entry (Nat.le_of_ble_eq_true rfl) (fun ls hl => ?_)
  exact wX12_restore X hml ⟨Nat.le_refl _, Nat.le_refl _⟩ hf (fun pc H locs ls hn hd hS => am_ri X hS hr hn hd hlocks) _ _ ls hS hl
set_option maxHeartbeats 4000000 in
set_option maxRecDepth 100000 in
theorem wX12_status {p : Program} {l : Launch} {e : Env} {R : Room} {s : State} {m : MethodId} {args : Array Value} {below : List Frame} {meth : Method} {c : Code} {Q : State → Prop} {E : Ev} (X : Cx p s m args c cX12_status RX12 E) (hml : c.maxLocals = 2) (hR : 1 ≤ R.frames ∧ 22 ≤ R.locals) {x0 : Nat} {x1 : Int32} {mm : Mem} {r : Int32} {mm1 : Mem} (hf : fX12_status (eS E) x0 x1 mm = some (r, mm1)) (hret : ∀ (pc : Nat) (H : Heap) (locs : List Loc) (ls : Array Slot), narrow .int (.int r) = .int r → decode cX12_status pc = .ok (.ireturn, 1) → wS E s mm1 H locs → W p l e R s m args below meth c H locs 0 0 Q (F0 m pc ls [.int r])) : ∀ (H : Heap) (locs : List Loc) (ls : Array Slot), wS E s mm H locs → lv_has ls 2 [(0, .ref x0), (1, .int x1)] → W p l e R s m args below meth c H locs 0 0 Q (F0 m 0 ls []) := by
  have hx := X.1
  have hb := X.2.1
  unfold fX12_status at hf
  have hj24 : ∀ (s0 : Int32) (mm : Mem) (H : Heap) (locs : List Loc) (ls : Array Slot), fX12_status_j24 (eS E) s0 mm = some (r, mm1) → wS E s mm H locs → lv_has ls 2 [] → W p l e R s m args below meth c H locs 0 0 Q (F0 m 24 ls [.int s0]) := by
    intro s0 mm H locs ls hf hS hl
    unfold fX12_status_j24 at hf
    cases hf
    exact hret _ _ _ _ rfl dX12_status_24 hS
  intro H locs ls hS hl
  refine lv_aload_n hx hb dX12_status_0 rfl (lv_at hl 0 rfl) ?_
  refine lv_iconst (v := 0) hx hb dX12_status_1 (by decide) ?_
  obtain ⟨m1, h1, hf⟩ := bs hf
  refine am_pi X hS fp_X12_3 rfl h1 dX12_status_2 (fun H locs hS => ?_)
  refine lv_iload_n hx hb dX12_status_5 rfl (lv_at hl 1 rfl) ?_
  refine lv_iconst (v := 0) hx hb dX12_status_6 (by decide) ?_
  refine lv_iconst (v := 1) hx hb dX12_status_7 (by decide) ?_
  obtain ⟨v2, h1, hf⟩ := bs hf
  refine am_endi hS (am_runS (As := [.int x1, .int 0, .int 1]) X (hml.trans hl.1.symm) hS (cX12_within_ok (l := l) (E := E) h1) ms_X12_368 ⟨Nat.le_trans (by decide) hR.1, Nat.le_trans (by decide) hR.2⟩ ⟨Nat.zero_le _, Nat.zero_le _⟩ rfl rfl (Nat.le_of_ble_eq_true rfl) dX12_status_8) (fun H locs hS => ?_)
  refine lv_if_eq (tgt := 23) hx hb dX12_status_11 (by decide) (fun q3 => ?_) (fun q3 => ?_)
  · have hf := ifp hf q3
    refine lv_iconst (v := (-1)) hx hb dX12_status_23 (by decide) ?_
    exact hj24 (-1) m1 H locs ls hf hS (lv_sub hl [] rfl)
  · have hf := ifn hf q3
    refine lv_aload_n hx hb dX12_status_14 rfl (lv_at hl 0 rfl) ?_
    obtain ⟨a4, h1, hf⟩ := bs hf
    refine am_gr X hS fl_X12_7 rfl h1 dX12_status_15 ?_
    refine lv_iload_n hx hb dX12_status_18 rfl (lv_at hl 1 rfl) ?_
    obtain ⟨v5, h1, hf⟩ := bs hf
    refine am_ald X hS h1 dX12_status_19 ?_
    refine lv_goto (tgt := 24) hx hb dX12_status_20 (by decide) ?_
    exact hj24 v5 m1 H locs ls hf hS (lv_sub hl [] rfl)
set_option maxRecDepth 100000 in
theorem cX12_status_ok {l : Launch} {E : Ev} {x0 : Nat} {x1 : Int32} {mm : Mem} {r : Int32} {mm1 : Mem} (hf : fX12_status (eS E) x0 x1 mm = some (r, mm1)) : CtI l yX12_status cX12_status 2 (some .int) 1 22 E [.ref x0, .int x1] mm r mm1 := by
  refine Met.ofW (cc := cX12_status) (maxL := 2) (ret := (some .int)) (by decide) rfl ?_
  intro p e s m args below meth c s₁ B hml hv
  obtain ⟨rfl, X, hS, hr, hlocks⟩ := am_in B hv
  refine am_entry (Nat.le_of_ble_eq_true rfl) (fun ls hl => ?_)
  exact wX12_status X hml ⟨Nat.le_refl _, Nat.le_refl _⟩ hf (fun pc H locs ls hn hd hS => am_ri X hS hr hn hd hlocks) _ _ ls hS hl
set_option maxHeartbeats 4000000 in
set_option maxRecDepth 100000 in
theorem wX12_count {p : Program} {l : Launch} {e : Env} {R : Room} {s : State} {m : MethodId} {args : Array Value} {below : List Frame} {meth : Method} {c : Code} {Q : State → Prop} {E : Ev} (X : Cx p s m args c cX12_count RX12 E) (hml : c.maxLocals = 2) (hR : 0 ≤ R.frames ∧ 0 ≤ R.locals) {x0 : Nat} {x1 : Int32} {mm : Mem} {r : Int32} {mm1 : Mem} (hf : fX12_count (eS E) x0 x1 mm = some (r, mm1)) (hret : ∀ (pc : Nat) (H : Heap) (locs : List Loc) (ls : Array Slot), narrow .int (.int r) = .int r → decode cX12_count pc = .ok (.ireturn, 1) → wS E s mm1 H locs → W p l e R s m args below meth c H locs 0 0 Q (F0 m pc ls [.int r])) : ∀ (H : Heap) (locs : List Loc) (ls : Array Slot), wS E s mm H locs → lv_has ls 2 [(0, .ref x0), (1, .int x1)] → W p l e R s m args below meth c H locs 0 0 Q (F0 m 0 ls []) := by
  have hx := X.1
  have hb := X.2.1
  unfold fX12_count at hf
  have hj41 : ∀ (s0 : Int32) (mm : Mem) (H : Heap) (locs : List Loc) (ls : Array Slot), fX12_count_j41 (eS E) s0 mm = some (r, mm1) → wS E s mm H locs → lv_has ls 2 [] → W p l e R s m args below meth c H locs 0 0 Q (F0 m 41 ls [.int s0]) := by
    intro s0 mm H locs ls hf hS hl
    unfold fX12_count_j41 at hf
    cases hf
    exact hret _ _ _ _ rfl dX12_count_41 hS
  intro H locs ls hS hl
  refine lv_aload_n hx hb dX12_count_0 rfl (lv_at hl 0 rfl) ?_
  refine lv_iconst (v := 0) hx hb dX12_count_1 (by decide) ?_
  obtain ⟨m1, h1, hf⟩ := bs hf
  refine am_pi X hS fp_X12_3 rfl h1 dX12_count_2 (fun H locs hS => ?_)
  refine lv_iload_n hx hb dX12_count_5 rfl (lv_at hl 1 rfl) ?_
  refine lv_if_ne (tgt := 16) hx hb dX12_count_6 (by decide) (fun q2 => ?_) (fun q2 => ?_)
  · have hf := ifn hf q2
    refine lv_iload_n hx hb dX12_count_16 rfl (lv_at hl 1 rfl) ?_
    refine lv_iconst (v := 1) hx hb dX12_count_17 (by decide) ?_
    refine lv_icmp_ne (tgt := 28) hx hb dX12_count_18 (by decide) (fun q3 => ?_) (fun q3 => ?_)
    · have hf := ifn hf q3
      refine lv_iload_n hx hb dX12_count_28 rfl (lv_at hl 1 rfl) ?_
      refine lv_iconst (v := 2) hx hb dX12_count_29 (by decide) ?_
      refine lv_icmp_ne (tgt := 40) hx hb dX12_count_30 (by decide) (fun q4 => ?_) (fun q4 => ?_)
      · have hf := ifn hf q4
        refine lv_iconst (v := (-1)) hx hb dX12_count_40 (by decide) ?_
        exact hj41 (-1) m1 H locs ls hf hS (lv_sub hl [] rfl)
      · have hf := ifp hf q4
        refine lv_aload_n hx hb dX12_count_33 rfl (lv_at hl 0 rfl) ?_
        obtain ⟨v5, h1, hf⟩ := bs hf
        refine am_gi X hS fl_X12_169 rfl h1 dX12_count_34 ?_
        refine lv_goto (tgt := 41) hx hb dX12_count_37 (by decide) ?_
        exact hj41 v5 m1 H locs ls hf hS (lv_sub hl [] rfl)
    · have hf := ifp hf q3
      refine lv_aload_n hx hb dX12_count_21 rfl (lv_at hl 0 rfl) ?_
      obtain ⟨v6, h1, hf⟩ := bs hf
      refine am_gi X hS fl_X12_95 rfl h1 dX12_count_22 ?_
      refine lv_goto (tgt := 41) hx hb dX12_count_25 (by decide) ?_
      exact hj41 v6 m1 H locs ls hf hS (lv_sub hl [] rfl)
  · have hf := ifp hf q2
    refine lv_aload_n hx hb dX12_count_9 rfl (lv_at hl 0 rfl) ?_
    obtain ⟨v7, h1, hf⟩ := bs hf
    refine am_gi X hS fl_X12_172 rfl h1 dX12_count_10 ?_
    refine lv_goto (tgt := 41) hx hb dX12_count_13 (by decide) ?_
    exact hj41 v7 m1 H locs ls hf hS (lv_sub hl [] rfl)
set_option maxRecDepth 100000 in
theorem cX12_count_ok {l : Launch} {E : Ev} {x0 : Nat} {x1 : Int32} {mm : Mem} {r : Int32} {mm1 : Mem} (hf : fX12_count (eS E) x0 x1 mm = some (r, mm1)) : CtI l yX12_count cX12_count 2 (some .int) 0 0 E [.ref x0, .int x1] mm r mm1 := by
  refine Met.ofW (cc := cX12_count) (maxL := 2) (ret := (some .int)) (by decide) rfl ?_
  intro p e s m args below meth c s₁ B hml hv
  obtain ⟨rfl, X, hS, hr, hlocks⟩ := am_in B hv
  refine am_entry (Nat.le_of_ble_eq_true rfl) (fun ls hl => ?_)
  exact wX12_count X hml ⟨Nat.le_refl _, Nat.le_refl _⟩ hf (fun pc H locs ls hn hd hS => am_ri X hS hr hn hd hlocks) _ _ ls hS hl

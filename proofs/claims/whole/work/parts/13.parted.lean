theorem dX11_isPlace_0 : decode cX11_isPlace 0 = .ok (.iload_n 1, 1) := by decide +kernel
theorem dX11_isPlace_1 : decode cX11_isPlace 1 = .ok (.ifCond .lt 18, 3) := by decide +kernel
theorem dX11_isPlace_4 : decode cX11_isPlace 4 = .ok (.iload_n 1, 1) := by decide +kernel
theorem dX11_isPlace_5 : decode cX11_isPlace 5 = .ok (.aload_n 0, 1) := by decide +kernel
theorem dX11_isPlace_6 : decode cX11_isPlace 6 = .ok (.getfield 19, 3) := by decide +kernel
theorem dX11_isPlace_9 : decode cX11_isPlace 9 = .ok (.getfield 171, 3) := by decide +kernel
theorem dX11_isPlace_12 : decode cX11_isPlace 12 = .ok (.if_icmp .ge 7, 3) := by decide +kernel
theorem dX11_isPlace_15 : decode cX11_isPlace 15 = .ok (.iconst 1, 1) := by decide +kernel
theorem dX11_isPlace_16 : decode cX11_isPlace 16 = .ok (.goto 4, 3) := by decide +kernel
theorem dX11_isPlace_19 : decode cX11_isPlace 19 = .ok (.iconst 0, 1) := by decide +kernel
theorem dX11_isPlace_20 : decode cX11_isPlace 20 = .ok (.ireturn, 1) := by decide +kernel
theorem dX11_isFellow_0 : decode cX11_isFellow 0 = .ok (.iload_n 1, 1) := by decide +kernel
theorem dX11_isFellow_1 : decode cX11_isFellow 1 = .ok (.ifCond .lt 18, 3) := by decide +kernel
theorem dX11_isFellow_4 : decode cX11_isFellow 4 = .ok (.iload_n 1, 1) := by decide +kernel
theorem dX11_isFellow_5 : decode cX11_isFellow 5 = .ok (.aload_n 0, 1) := by decide +kernel
theorem dX11_isFellow_6 : decode cX11_isFellow 6 = .ok (.getfield 19, 3) := by decide +kernel
theorem dX11_isFellow_9 : decode cX11_isFellow 9 = .ok (.getfield 144, 3) := by decide +kernel
theorem dX11_isFellow_12 : decode cX11_isFellow 12 = .ok (.if_icmp .ge 7, 3) := by decide +kernel
theorem dX11_isFellow_15 : decode cX11_isFellow 15 = .ok (.iconst 1, 1) := by decide +kernel
theorem dX11_isFellow_16 : decode cX11_isFellow 16 = .ok (.goto 4, 3) := by decide +kernel
theorem dX11_isFellow_19 : decode cX11_isFellow 19 = .ok (.iconst 0, 1) := by decide +kernel
theorem dX11_isFellow_20 : decode cX11_isFellow 20 = .ok (.ireturn, 1) := by decide +kernel
theorem dX11_inLeastTerms_0 : decode cX11_inLeastTerms 0 = .ok (.lload_n 0, 1) := by decide +kernel
theorem dX11_inLeastTerms_1 : decode cX11_inLeastTerms 1 = .ok (.lstore 5, 2) := by decide +kernel
theorem dX11_inLeastTerms_3 : decode cX11_inLeastTerms 3 = .ok (.lload_n 2, 1) := by decide +kernel
theorem dX11_inLeastTerms_4 : decode cX11_inLeastTerms 4 = .ok (.lstore 7, 2) := by decide +kernel
theorem dX11_inLeastTerms_6 : decode cX11_inLeastTerms 6 = .ok (.iconst 0, 1) := by decide +kernel
theorem dX11_inLeastTerms_7 : decode cX11_inLeastTerms 7 = .ok (.istore 9, 2) := by decide +kernel
theorem dX11_inLeastTerms_9 : decode cX11_inLeastTerms 9 = .ok (.iload 9, 2) := by decide +kernel
theorem dX11_inLeastTerms_11 : decode cX11_inLeastTerms 11 = .ok (.bipush 100, 2) := by decide +kernel
theorem dX11_inLeastTerms_13 : decode cX11_inLeastTerms 13 = .ok (.if_icmp .ge 31, 3) := by decide +kernel
theorem dX11_inLeastTerms_16 : decode cX11_inLeastTerms 16 = .ok (.lload 7, 2) := by decide +kernel
theorem dX11_inLeastTerms_18 : decode cX11_inLeastTerms 18 = .ok (.lconst 0, 1) := by decide +kernel
theorem dX11_inLeastTerms_19 : decode cX11_inLeastTerms 19 = .ok (.lcmp, 1) := by decide +kernel
theorem dX11_inLeastTerms_20 : decode cX11_inLeastTerms 20 = .ok (.ifCond .eq 24, 3) := by decide +kernel
theorem dX11_inLeastTerms_23 : decode cX11_inLeastTerms 23 = .ok (.lload 5, 2) := by decide +kernel
theorem dX11_inLeastTerms_25 : decode cX11_inLeastTerms 25 = .ok (.lload 7, 2) := by decide +kernel
theorem dX11_inLeastTerms_27 : decode cX11_inLeastTerms 27 = .ok (.lrem, 1) := by decide +kernel
theorem dX11_inLeastTerms_28 : decode cX11_inLeastTerms 28 = .ok (.lstore 10, 2) := by decide +kernel
theorem dX11_inLeastTerms_30 : decode cX11_inLeastTerms 30 = .ok (.lload 7, 2) := by decide +kernel
theorem dX11_inLeastTerms_32 : decode cX11_inLeastTerms 32 = .ok (.lstore 5, 2) := by decide +kernel
theorem dX11_inLeastTerms_34 : decode cX11_inLeastTerms 34 = .ok (.lload 10, 2) := by decide +kernel
theorem dX11_inLeastTerms_36 : decode cX11_inLeastTerms 36 = .ok (.lstore 7, 2) := by decide +kernel
theorem dX11_inLeastTerms_38 : decode cX11_inLeastTerms 38 = .ok (.iinc 9 1, 3) := by decide +kernel
theorem dX11_inLeastTerms_41 : decode cX11_inLeastTerms 41 = .ok (.goto (-32), 3) := by decide +kernel
theorem dX11_inLeastTerms_44 : decode cX11_inLeastTerms 44 = .ok (.lconst 1, 1) := by decide +kernel
theorem dX11_inLeastTerms_45 : decode cX11_inLeastTerms 45 = .ok (.lload 5, 2) := by decide +kernel
theorem dX11_inLeastTerms_47 : decode cX11_inLeastTerms 47 = .ok (.invokestatic 407, 3) := by decide +kernel
theorem dX11_inLeastTerms_50 : decode cX11_inLeastTerms 50 = .ok (.lstore 9, 2) := by decide +kernel
theorem dX11_inLeastTerms_52 : decode cX11_inLeastTerms 52 = .ok (.iload 4, 2) := by decide +kernel
theorem dX11_inLeastTerms_54 : decode cX11_inLeastTerms 54 = .ok (.ifCond .ne 10, 3) := by decide +kernel
theorem dX11_inLeastTerms_57 : decode cX11_inLeastTerms 57 = .ok (.lload_n 0, 1) := by decide +kernel
theorem dX11_inLeastTerms_58 : decode cX11_inLeastTerms 58 = .ok (.lload 9, 2) := by decide +kernel
theorem dX11_inLeastTerms_60 : decode cX11_inLeastTerms 60 = .ok (.ldiv, 1) := by decide +kernel
theorem dX11_inLeastTerms_61 : decode cX11_inLeastTerms 61 = .ok (.goto 7, 3) := by decide +kernel
theorem dX11_inLeastTerms_64 : decode cX11_inLeastTerms 64 = .ok (.lload_n 2, 1) := by decide +kernel
theorem dX11_inLeastTerms_65 : decode cX11_inLeastTerms 65 = .ok (.lload 9, 2) := by decide +kernel
theorem dX11_inLeastTerms_67 : decode cX11_inLeastTerms 67 = .ok (.ldiv, 1) := by decide +kernel
theorem dX11_inLeastTerms_68 : decode cX11_inLeastTerms 68 = .ok (.lreturn, 1) := by decide +kernel
theorem dX11_count_0 : decode cX11_count 0 = .ok (.iload_n 1, 1) := by decide +kernel
theorem dX11_count_1 : decode cX11_count 1 = .ok (.tableswitch 48 0 2 #[27, 32, 40], 27) := by decide +kernel
theorem dX11_count_28 : decode cX11_count 28 = .ok (.aload_n 0, 1) := by decide +kernel
theorem dX11_count_29 : decode cX11_count 29 = .ok (.getfield 138, 3) := by decide +kernel
theorem dX11_count_32 : decode cX11_count 32 = .ok (.ireturn, 1) := by decide +kernel
theorem dX11_count_33 : decode cX11_count 33 = .ok (.aload_n 0, 1) := by decide +kernel
theorem dX11_count_34 : decode cX11_count 34 = .ok (.getfield 12, 3) := by decide +kernel
theorem dX11_count_37 : decode cX11_count 37 = .ok (.getfield 103, 3) := by decide +kernel
theorem dX11_count_40 : decode cX11_count 40 = .ok (.ireturn, 1) := by decide +kernel
theorem dX11_count_41 : decode cX11_count 41 = .ok (.aload_n 0, 1) := by decide +kernel
theorem dX11_count_42 : decode cX11_count 42 = .ok (.getfield 74, 3) := by decide +kernel
theorem dX11_count_45 : decode cX11_count 45 = .ok (.getfield 135, 3) := by decide +kernel
theorem dX11_count_48 : decode cX11_count 48 = .ok (.ireturn, 1) := by decide +kernel
theorem dX11_count_49 : decode cX11_count 49 = .ok (.iconst (-1), 1) := by decide +kernel
theorem dX11_count_50 : decode cX11_count 50 = .ok (.ireturn, 1) := by decide +kernel
theorem dX11_image_0 : decode cX11_image 0 = .ok (.aload_n 0, 1) := by decide +kernel
theorem dX11_image_1 : decode cX11_image 1 = .ok (.getfield 138, 3) := by decide +kernel
theorem dX11_image_4 : decode cX11_image 4 = .ok (.iconst 3, 1) := by decide +kernel
theorem dX11_image_5 : decode cX11_image 5 = .ok (.if_icmp .lt 5, 3) := by decide +kernel
theorem dX11_image_8 : decode cX11_image 8 = .ok (.iconst (-1), 1) := by decide +kernel
theorem dX11_image_9 : decode cX11_image 9 = .ok (.ireturn, 1) := by decide +kernel
theorem dX11_image_10 : decode cX11_image 10 = .ok (.aload_n 0, 1) := by decide +kernel
theorem dX11_image_11 : decode cX11_image 11 = .ok (.getfield 80, 3) := by decide +kernel
theorem dX11_image_14 : decode cX11_image 14 = .ok (.aload_n 0, 1) := by decide +kernel
theorem dX11_image_15 : decode cX11_image 15 = .ok (.getfield 138, 3) := by decide +kernel
theorem dX11_image_18 : decode cX11_image 18 = .ok (.aaload, 1) := by decide +kernel
theorem dX11_image_19 : decode cX11_image 19 = .ok (.getfield 378, 3) := by decide +kernel
theorem dX11_image_22 : decode cX11_image 22 = .ok (.aload_n 0, 1) := by decide +kernel
theorem dX11_image_23 : decode cX11_image 23 = .ok (.getfield 67, 3) := by decide +kernel
theorem dX11_image_26 : decode cX11_image 26 = .ok (.invokevirtual 379, 3) := by decide +kernel
theorem dX11_image_29 : decode cX11_image 29 = .ok (.aload_n 0, 1) := by decide +kernel
theorem dX11_image_30 : decode cX11_image 30 = .ok (.getfield 80, 3) := by decide +kernel
theorem dX11_image_33 : decode cX11_image 33 = .ok (.aload_n 0, 1) := by decide +kernel
theorem dX11_image_34 : decode cX11_image 34 = .ok (.getfield 138, 3) := by decide +kernel
theorem dX11_image_37 : decode cX11_image 37 = .ok (.aaload, 1) := by decide +kernel
theorem dX11_image_38 : decode cX11_image 38 = .ok (.getfield 381, 3) := by decide +kernel
theorem dX11_image_41 : decode cX11_image 41 = .ok (.aload_n 0, 1) := by decide +kernel
theorem dX11_image_42 : decode cX11_image 42 = .ok (.getfield 74, 3) := by decide +kernel
theorem dX11_image_45 : decode cX11_image 45 = .ok (.invokevirtual 382, 3) := by decide +kernel
theorem dX11_image_48 : decode cX11_image 48 = .ok (.aload_n 0, 1) := by decide +kernel
theorem dX11_image_49 : decode cX11_image 49 = .ok (.dup, 1) := by decide +kernel
theorem dX11_image_50 : decode cX11_image 50 = .ok (.getfield 138, 3) := by decide +kernel
theorem dX11_image_53 : decode cX11_image 53 = .ok (.iconst 1, 1) := by decide +kernel
theorem dX11_image_54 : decode cX11_image 54 = .ok (.iadd, 1) := by decide +kernel
theorem dX11_image_55 : decode cX11_image 55 = .ok (.putfield 138, 3) := by decide +kernel
theorem dX11_image_58 : decode cX11_image 58 = .ok (.aload_n 0, 1) := by decide +kernel
theorem dX11_image_59 : decode cX11_image 59 = .ok (.getfield 138, 3) := by decide +kernel
theorem dX11_image_62 : decode cX11_image 62 = .ok (.ireturn, 1) := by decide +kernel
theorem dX11_areFellows_0 : decode cX11_areFellows 0 = .ok (.iload_n 1, 1) := by decide +kernel
theorem dX11_areFellows_1 : decode cX11_areFellows 1 = .ok (.ifCond .lt 20, 3) := by decide +kernel
theorem dX11_areFellows_4 : decode cX11_areFellows 4 = .ok (.iload_n 1, 1) := by decide +kernel
theorem dX11_areFellows_5 : decode cX11_areFellows 5 = .ok (.iconst 1, 1) := by decide +kernel
theorem dX11_areFellows_6 : decode cX11_areFellows 6 = .ok (.aload_n 0, 1) := by decide +kernel
theorem dX11_areFellows_7 : decode cX11_areFellows 7 = .ok (.getfield 19, 3) := by decide +kernel
theorem dX11_areFellows_10 : decode cX11_areFellows 10 = .ok (.getfield 144, 3) := by decide +kernel
theorem dX11_areFellows_13 : decode cX11_areFellows 13 = .ok (.ishl, 1) := by decide +kernel
theorem dX11_areFellows_14 : decode cX11_areFellows 14 = .ok (.if_icmp .ge 7, 3) := by decide +kernel
theorem dX11_areFellows_17 : decode cX11_areFellows 17 = .ok (.iconst 1, 1) := by decide +kernel
theorem dX11_areFellows_18 : decode cX11_areFellows 18 = .ok (.goto 4, 3) := by decide +kernel
theorem dX11_areFellows_21 : decode cX11_areFellows 21 = .ok (.iconst 0, 1) := by decide +kernel
theorem dX11_areFellows_22 : decode cX11_areFellows 22 = .ok (.ireturn, 1) := by decide +kernel
theorem dX11_wouldStay_0 : decode cX11_wouldStay 0 = .ok (.iload_n 0, 1) := by decide +kernel
theorem dX11_wouldStay_1 : decode cX11_wouldStay 1 = .ok (.iload_n 1, 1) := by decide +kernel
theorem dX11_wouldStay_2 : decode cX11_wouldStay 2 = .ok (.iload_n 2, 1) := by decide +kernel
theorem dX11_wouldStay_3 : decode cX11_wouldStay 3 = .ok (.iload_n 3, 1) := by decide +kernel
theorem dX11_wouldStay_4 : decode cX11_wouldStay 4 = .ok (.invokestatic 341, 3) := by decide +kernel
theorem dX11_wouldStay_7 : decode cX11_wouldStay 7 = .ok (.iconst 1, 1) := by decide +kernel
theorem dX11_wouldStay_8 : decode cX11_wouldStay 8 = .ok (.iload_n 0, 1) := by decide +kernel
theorem dX11_wouldStay_9 : decode cX11_wouldStay 9 = .ok (.isub, 1) := by decide +kernel
theorem dX11_wouldStay_10 : decode cX11_wouldStay 10 = .ok (.iload_n 1, 1) := by decide +kernel
theorem dX11_wouldStay_11 : decode cX11_wouldStay 11 = .ok (.iload_n 2, 1) := by decide +kernel
theorem dX11_wouldStay_12 : decode cX11_wouldStay 12 = .ok (.iload_n 3, 1) := by decide +kernel
theorem dX11_wouldStay_13 : decode cX11_wouldStay 13 = .ok (.invokestatic 341, 3) := by decide +kernel
theorem dX11_wouldStay_16 : decode cX11_wouldStay 16 = .ok (.if_icmp .lt 7, 3) := by decide +kernel
theorem dX11_wouldStay_19 : decode cX11_wouldStay 19 = .ok (.iconst 1, 1) := by decide +kernel
theorem dX11_wouldStay_20 : decode cX11_wouldStay 20 = .ok (.goto 4, 3) := by decide +kernel
theorem dX11_wouldStay_23 : decode cX11_wouldStay 23 = .ok (.iconst 0, 1) := by decide +kernel
theorem dX11_wouldStay_24 : decode cX11_wouldStay 24 = .ok (.ireturn, 1) := by decide +kernel
theorem dX11_undo_0 : decode cX11_undo 0 = .ok (.aload_n 0, 1) := by decide +kernel
theorem dX11_undo_1 : decode cX11_undo 1 = .ok (.getfield 74, 3) := by decide +kernel
theorem dX11_undo_4 : decode cX11_undo 4 = .ok (.getfield 135, 3) := by decide +kernel
theorem dX11_undo_7 : decode cX11_undo 7 = .ok (.ifCond .ne 5, 3) := by decide +kernel
theorem dX11_undo_10 : decode cX11_undo 10 = .ok (.iconst (-1), 1) := by decide +kernel
theorem dX11_undo_11 : decode cX11_undo 11 = .ok (.ireturn, 1) := by decide +kernel
theorem dX11_undo_12 : decode cX11_undo 12 = .ok (.aload_n 0, 1) := by decide +kernel
theorem dX11_undo_13 : decode cX11_undo 13 = .ok (.getfield 74, 3) := by decide +kernel
theorem dX11_undo_16 : decode cX11_undo 16 = .ok (.aload_n 0, 1) := by decide +kernel
theorem dX11_undo_17 : decode cX11_undo 17 = .ok (.getfield 67, 3) := by decide +kernel
theorem dX11_undo_20 : decode cX11_undo 20 = .ok (.invokevirtual 183, 3) := by decide +kernel
theorem dX11_undo_23 : decode cX11_undo 23 = .ok (.aload_n 0, 1) := by decide +kernel
theorem dX11_undo_24 : decode cX11_undo 24 = .ok (.iconst 0, 1) := by decide +kernel
theorem dX11_undo_25 : decode cX11_undo 25 = .ok (.putfield 141, 3) := by decide +kernel
theorem dX11_undo_28 : decode cX11_undo 28 = .ok (.aload_n 0, 1) := by decide +kernel
theorem dX11_undo_29 : decode cX11_undo 29 = .ok (.getfield 74, 3) := by decide +kernel
theorem dX11_undo_32 : decode cX11_undo 32 = .ok (.getfield 135, 3) := by decide +kernel
theorem dX11_undo_35 : decode cX11_undo 35 = .ok (.ireturn, 1) := by decide +kernel
theorem dX11_lit_0 : decode cX11_lit 0 = .ok (.iconst 0, 1) := by decide +kernel
theorem dX11_lit_1 : decode cX11_lit 1 = .ok (.istore_n 1, 1) := by decide +kernel
theorem dX11_lit_2 : decode cX11_lit 2 = .ok (.iconst 0, 1) := by decide +kernel
theorem dX11_lit_3 : decode cX11_lit 3 = .ok (.istore_n 2, 1) := by decide +kernel
theorem dX11_lit_4 : decode cX11_lit 4 = .ok (.iload_n 2, 1) := by decide +kernel
theorem dX11_lit_5 : decode cX11_lit 5 = .ok (.aload_n 0, 1) := by decide +kernel
theorem dX11_lit_6 : decode cX11_lit 6 = .ok (.getfield 19, 3) := by decide +kernel
theorem dX11_lit_9 : decode cX11_lit 9 = .ok (.getfield 171, 3) := by decide +kernel
theorem dX11_lit_12 : decode cX11_lit 12 = .ok (.if_icmp .ge 29, 3) := by decide +kernel
theorem dX11_lit_15 : decode cX11_lit 15 = .ok (.iload_n 1, 1) := by decide +kernel
theorem dX11_lit_16 : decode cX11_lit 16 = .ok (.aload_n 0, 1) := by decide +kernel
theorem dX11_lit_17 : decode cX11_lit 17 = .ok (.getfield 67, 3) := by decide +kernel
theorem dX11_lit_20 : decode cX11_lit 20 = .ok (.iload_n 2, 1) := by decide +kernel
theorem dX11_lit_21 : decode cX11_lit 21 = .ok (.iconst 0, 1) := by decide +kernel
theorem dX11_lit_22 : decode cX11_lit 22 = .ok (.invokevirtual 258, 3) := by decide +kernel
theorem dX11_lit_25 : decode cX11_lit 25 = .ok (.ifCond .le 7, 3) := by decide +kernel
theorem dX11_lit_28 : decode cX11_lit 28 = .ok (.iconst 1, 1) := by decide +kernel
theorem dX11_lit_29 : decode cX11_lit 29 = .ok (.goto 4, 3) := by decide +kernel
theorem dX11_lit_32 : decode cX11_lit 32 = .ok (.iconst 0, 1) := by decide +kernel
theorem dX11_lit_33 : decode cX11_lit 33 = .ok (.iadd, 1) := by decide +kernel
theorem dX11_lit_34 : decode cX11_lit 34 = .ok (.istore_n 1, 1) := by decide +kernel
theorem dX11_lit_35 : decode cX11_lit 35 = .ok (.iinc 2 1, 3) := by decide +kernel
theorem dX11_lit_38 : decode cX11_lit 38 = .ok (.goto (-34), 3) := by decide +kernel
theorem dX11_lit_41 : decode cX11_lit 41 = .ok (.iload_n 1, 1) := by decide +kernel
theorem dX11_lit_42 : decode cX11_lit 42 = .ok (.ireturn, 1) := by decide +kernel
theorem dX11_isQuota_0 : decode cX11_isQuota 0 = .ok (.iload_n 0, 1) := by decide +kernel
theorem dX11_isQuota_1 : decode cX11_isQuota 1 = .ok (.iconst 1, 1) := by decide +kernel
theorem dX11_isQuota_2 : decode cX11_isQuota 2 = .ok (.if_icmp .lt 14, 3) := by decide +kernel
theorem dX11_isQuota_5 : decode cX11_isQuota 5 = .ok (.iload_n 0, 1) := by decide +kernel
theorem dX11_isQuota_6 : decode cX11_isQuota 6 = .ok (.sipush 2800, 3) := by decide +kernel
theorem dX11_isQuota_9 : decode cX11_isQuota 9 = .ok (.if_icmp .gt 7, 3) := by decide +kernel
theorem dX11_isQuota_12 : decode cX11_isQuota 12 = .ok (.iconst 1, 1) := by decide +kernel
theorem dX11_isQuota_13 : decode cX11_isQuota 13 = .ok (.goto 4, 3) := by decide +kernel
theorem dX11_isQuota_16 : decode cX11_isQuota 16 = .ok (.iconst 0, 1) := by decide +kernel
theorem dX11_isQuota_17 : decode cX11_isQuota 17 = .ok (.ireturn, 1) := by decide +kernel
theorem dX11_isTerm_0 : decode cX11_isTerm 0 = .ok (.iload_n 0, 1) := by decide +kernel
theorem dX11_isTerm_1 : decode cX11_isTerm 1 = .ok (.ifCond .lt 24, 3) := by decide +kernel
theorem dX11_isTerm_4 : decode cX11_isTerm 4 = .ok (.iload_n 0, 1) := by decide +kernel
theorem dX11_isTerm_5 : decode cX11_isTerm 5 = .ok (.bipush 16, 2) := by decide +kernel
theorem dX11_isTerm_7 : decode cX11_isTerm 7 = .ok (.if_icmp .gt 18, 3) := by decide +kernel
theorem dX11_isTerm_10 : decode cX11_isTerm 10 = .ok (.iload_n 1, 1) := by decide +kernel
theorem dX11_isTerm_11 : decode cX11_isTerm 11 = .ok (.iconst 1, 1) := by decide +kernel
theorem dX11_isTerm_12 : decode cX11_isTerm 12 = .ok (.if_icmp .lt 13, 3) := by decide +kernel
theorem dX11_isTerm_15 : decode cX11_isTerm 15 = .ok (.iload_n 1, 1) := by decide +kernel
theorem dX11_isTerm_16 : decode cX11_isTerm 16 = .ok (.bipush 48, 2) := by decide +kernel
theorem dX11_isTerm_18 : decode cX11_isTerm 18 = .ok (.if_icmp .gt 7, 3) := by decide +kernel
theorem dX11_isTerm_21 : decode cX11_isTerm 21 = .ok (.iconst 1, 1) := by decide +kernel
theorem dX11_isTerm_22 : decode cX11_isTerm 22 = .ok (.goto 4, 3) := by decide +kernel
theorem dX11_isTerm_25 : decode cX11_isTerm 25 = .ok (.iconst 0, 1) := by decide +kernel
theorem dX11_isTerm_26 : decode cX11_isTerm 26 = .ok (.ireturn, 1) := by decide +kernel
theorem dX11_gain_0 : decode cX11_gain 0 = .ok (.iload_n 0, 1) := by decide +kernel
theorem dX11_gain_1 : decode cX11_gain 1 = .ok (.iload_n 1, 1) := by decide +kernel
theorem dX11_gain_2 : decode cX11_gain 2 = .ok (.if_icmp .ne 7, 3) := by decide +kernel
theorem dX11_gain_5 : decode cX11_gain 5 = .ok (.iconst 0, 1) := by decide +kernel
theorem dX11_gain_6 : decode cX11_gain 6 = .ok (.goto 12, 3) := by decide +kernel
theorem dX11_gain_9 : decode cX11_gain 9 = .ok (.iload_n 0, 1) := by decide +kernel
theorem dX11_gain_10 : decode cX11_gain 10 = .ok (.ifCond .ne 7, 3) := by decide +kernel
theorem dX11_gain_13 : decode cX11_gain 13 = .ok (.iload_n 2, 1) := by decide +kernel
theorem dX11_gain_14 : decode cX11_gain 14 = .ok (.goto 4, 3) := by decide +kernel
theorem dX11_gain_17 : decode cX11_gain 17 = .ok (.iload_n 3, 1) := by decide +kernel
theorem dX11_gain_18 : decode cX11_gain 18 = .ok (.ireturn, 1) := by decide +kernel
theorem dX11_restore_0 : decode cX11_restore 0 = .ok (.aload_n 0, 1) := by decide +kernel
theorem dX11_restore_1 : decode cX11_restore 1 = .ok (.getfield 138, 3) := by decide +kernel
theorem dX11_restore_4 : decode cX11_restore 4 = .ok (.ifCond .ne 5, 3) := by decide +kernel
theorem dX11_restore_7 : decode cX11_restore 7 = .ok (.iconst (-1), 1) := by decide +kernel
theorem dX11_restore_8 : decode cX11_restore 8 = .ok (.ireturn, 1) := by decide +kernel
theorem dX11_restore_9 : decode cX11_restore 9 = .ok (.aload_n 0, 1) := by decide +kernel
theorem dX11_restore_10 : decode cX11_restore 10 = .ok (.dup, 1) := by decide +kernel
theorem dX11_restore_11 : decode cX11_restore 11 = .ok (.getfield 138, 3) := by decide +kernel
theorem dX11_restore_14 : decode cX11_restore 14 = .ok (.iconst 1, 1) := by decide +kernel
theorem dX11_restore_15 : decode cX11_restore 15 = .ok (.isub, 1) := by decide +kernel
theorem dX11_restore_16 : decode cX11_restore 16 = .ok (.putfield 138, 3) := by decide +kernel
theorem dX11_restore_19 : decode cX11_restore 19 = .ok (.aload_n 0, 1) := by decide +kernel
theorem dX11_restore_20 : decode cX11_restore 20 = .ok (.getfield 67, 3) := by decide +kernel
theorem dX11_restore_23 : decode cX11_restore 23 = .ok (.aload_n 0, 1) := by decide +kernel
theorem dX11_restore_24 : decode cX11_restore 24 = .ok (.getfield 80, 3) := by decide +kernel
theorem dX11_restore_27 : decode cX11_restore 27 = .ok (.aload_n 0, 1) := by decide +kernel
theorem dX11_restore_28 : decode cX11_restore 28 = .ok (.getfield 138, 3) := by decide +kernel
theorem dX11_restore_31 : decode cX11_restore 31 = .ok (.aaload, 1) := by decide +kernel
theorem dX11_restore_32 : decode cX11_restore 32 = .ok (.getfield 378, 3) := by decide +kernel
theorem dX11_restore_35 : decode cX11_restore 35 = .ok (.invokevirtual 379, 3) := by decide +kernel
theorem dX11_restore_38 : decode cX11_restore 38 = .ok (.aload_n 0, 1) := by decide +kernel
theorem dX11_restore_39 : decode cX11_restore 39 = .ok (.getfield 74, 3) := by decide +kernel
theorem dX11_restore_42 : decode cX11_restore 42 = .ok (.aload_n 0, 1) := by decide +kernel
theorem dX11_restore_43 : decode cX11_restore 43 = .ok (.getfield 80, 3) := by decide +kernel
theorem dX11_restore_46 : decode cX11_restore 46 = .ok (.aload_n 0, 1) := by decide +kernel
theorem dX11_restore_47 : decode cX11_restore 47 = .ok (.getfield 138, 3) := by decide +kernel
theorem dX11_restore_50 : decode cX11_restore 50 = .ok (.aaload, 1) := by decide +kernel
theorem dX11_restore_51 : decode cX11_restore 51 = .ok (.getfield 381, 3) := by decide +kernel
theorem dX11_restore_54 : decode cX11_restore 54 = .ok (.invokevirtual 382, 3) := by decide +kernel
theorem dX11_restore_57 : decode cX11_restore 57 = .ok (.aload_n 0, 1) := by decide +kernel
theorem dX11_restore_58 : decode cX11_restore 58 = .ok (.iconst 0, 1) := by decide +kernel
theorem dX11_restore_59 : decode cX11_restore 59 = .ok (.putfield 141, 3) := by decide +kernel
theorem dX11_restore_62 : decode cX11_restore 62 = .ok (.aload_n 0, 1) := by decide +kernel
theorem dX11_restore_63 : decode cX11_restore 63 = .ok (.getfield 138, 3) := by decide +kernel
theorem dX11_restore_66 : decode cX11_restore 66 = .ok (.ireturn, 1) := by decide +kernel
theorem dX11_status_0 : decode cX11_status 0 = .ok (.iload_n 1, 1) := by decide +kernel
theorem dX11_status_1 : decode cX11_status 1 = .ok (.ifCond .ne 10, 3) := by decide +kernel
theorem dX11_status_4 : decode cX11_status 4 = .ok (.aload_n 0, 1) := by decide +kernel
theorem dX11_status_5 : decode cX11_status 5 = .ok (.getfield 385, 3) := by decide +kernel
theorem dX11_status_8 : decode cX11_status 8 = .ok (.goto 16, 3) := by decide +kernel
theorem dX11_status_11 : decode cX11_status 11 = .ok (.iload_n 1, 1) := by decide +kernel
theorem dX11_status_12 : decode cX11_status 12 = .ok (.iconst 1, 1) := by decide +kernel
theorem dX11_status_13 : decode cX11_status 13 = .ok (.if_icmp .ne 10, 3) := by decide +kernel
theorem dX11_status_16 : decode cX11_status 16 = .ok (.aload_n 0, 1) := by decide +kernel
theorem dX11_status_17 : decode cX11_status 17 = .ok (.getfield 388, 3) := by decide +kernel
theorem dX11_status_20 : decode cX11_status 20 = .ok (.goto 4, 3) := by decide +kernel
theorem dX11_status_23 : decode cX11_status 23 = .ok (.iconst (-1), 1) := by decide +kernel
theorem dX11_status_24 : decode cX11_status 24 = .ok (.ireturn, 1) := by decide +kernel
theorem dX11_isSwing_0 : decode cX11_isSwing 0 = .ok (.iload 4, 2) := by decide +kernel
theorem dX11_isSwing_2 : decode cX11_isSwing 2 = .ok (.iload_n 2, 1) := by decide +kernel
theorem dX11_isSwing_3 : decode cX11_isSwing 3 = .ok (.ishr, 1) := by decide +kernel
theorem dX11_isSwing_4 : decode cX11_isSwing 4 = .ok (.iconst 1, 1) := by decide +kernel
theorem dX11_isSwing_5 : decode cX11_isSwing 5 = .ok (.iand, 1) := by decide +kernel
theorem dX11_isSwing_6 : decode cX11_isSwing 6 = .ok (.iconst 1, 1) := by decide +kernel
theorem dX11_isSwing_7 : decode cX11_isSwing 7 = .ok (.if_icmp .ne 5, 3) := by decide +kernel
theorem dX11_isSwing_10 : decode cX11_isSwing 10 = .ok (.iconst 0, 1) := by decide +kernel
theorem dX11_isSwing_11 : decode cX11_isSwing 11 = .ok (.ireturn, 1) := by decide +kernel
theorem dX11_isSwing_12 : decode cX11_isSwing 12 = .ok (.iconst 0, 1) := by decide +kernel
theorem dX11_isSwing_13 : decode cX11_isSwing 13 = .ok (.istore 5, 2) := by decide +kernel
theorem dX11_isSwing_15 : decode cX11_isSwing 15 = .ok (.iconst 0, 1) := by decide +kernel
theorem dX11_isSwing_16 : decode cX11_isSwing 16 = .ok (.istore 6, 2) := by decide +kernel
theorem dX11_isSwing_18 : decode cX11_isSwing 18 = .ok (.iload 6, 2) := by decide +kernel
theorem dX11_isSwing_20 : decode cX11_isSwing 20 = .ok (.bipush 7, 2) := by decide +kernel
theorem dX11_isSwing_22 : decode cX11_isSwing 22 = .ok (.if_icmp .ge 37, 3) := by decide +kernel
theorem dX11_isSwing_25 : decode cX11_isSwing 25 = .ok (.iload 5, 2) := by decide +kernel
theorem dX11_isSwing_27 : decode cX11_isSwing 27 = .ok (.iload 4, 2) := by decide +kernel
theorem dX11_isSwing_29 : decode cX11_isSwing 29 = .ok (.iload 6, 2) := by decide +kernel
theorem dX11_isSwing_31 : decode cX11_isSwing 31 = .ok (.ishr, 1) := by decide +kernel
theorem dX11_isSwing_32 : decode cX11_isSwing 32 = .ok (.iconst 1, 1) := by decide +kernel
theorem dX11_isSwing_33 : decode cX11_isSwing 33 = .ok (.iand, 1) := by decide +kernel
theorem dX11_isSwing_34 : decode cX11_isSwing 34 = .ok (.aload_n 0, 1) := by decide +kernel
theorem dX11_isSwing_35 : decode cX11_isSwing 35 = .ok (.getfield 67, 3) := by decide +kernel
theorem dX11_isSwing_38 : decode cX11_isSwing 38 = .ok (.getfield 204, 3) := by decide +kernel
theorem dX11_isSwing_41 : decode cX11_isSwing 41 = .ok (.iload_n 1, 1) := by decide +kernel
theorem dX11_isSwing_42 : decode cX11_isSwing 42 = .ok (.bipush 7, 2) := by decide +kernel
theorem dX11_isSwing_44 : decode cX11_isSwing 44 = .ok (.imul, 1) := by decide +kernel
theorem dX11_isSwing_45 : decode cX11_isSwing 45 = .ok (.iload 6, 2) := by decide +kernel
theorem dX11_isSwing_47 : decode cX11_isSwing 47 = .ok (.iadd, 1) := by decide +kernel
theorem dX11_isSwing_48 : decode cX11_isSwing 48 = .ok (.iaload, 1) := by decide +kernel
theorem dX11_isSwing_49 : decode cX11_isSwing 49 = .ok (.imul, 1) := by decide +kernel
theorem dX11_isSwing_50 : decode cX11_isSwing 50 = .ok (.iadd, 1) := by decide +kernel
theorem dX11_isSwing_51 : decode cX11_isSwing 51 = .ok (.istore 5, 2) := by decide +kernel
theorem dX11_isSwing_53 : decode cX11_isSwing 53 = .ok (.iinc 6 1, 3) := by decide +kernel
theorem dX11_isSwing_56 : decode cX11_isSwing 56 = .ok (.goto (-38), 3) := by decide +kernel
theorem dX11_isSwing_59 : decode cX11_isSwing 59 = .ok (.iload 5, 2) := by decide +kernel
theorem dX11_isSwing_61 : decode cX11_isSwing 61 = .ok (.iload_n 3, 1) := by decide +kernel
theorem dX11_isSwing_62 : decode cX11_isSwing 62 = .ok (.if_icmp .ge 28, 3) := by decide +kernel
theorem dX11_isSwing_65 : decode cX11_isSwing 65 = .ok (.iload 5, 2) := by decide +kernel
theorem dX11_isSwing_67 : decode cX11_isSwing 67 = .ok (.aload_n 0, 1) := by decide +kernel
theorem dX11_isSwing_68 : decode cX11_isSwing 68 = .ok (.getfield 67, 3) := by decide +kernel
theorem dX11_isSwing_71 : decode cX11_isSwing 71 = .ok (.getfield 204, 3) := by decide +kernel
theorem dX11_isSwing_74 : decode cX11_isSwing 74 = .ok (.iload_n 1, 1) := by decide +kernel
theorem dX11_isSwing_75 : decode cX11_isSwing 75 = .ok (.bipush 7, 2) := by decide +kernel
theorem dX11_isSwing_77 : decode cX11_isSwing 77 = .ok (.imul, 1) := by decide +kernel
theorem dX11_isSwing_78 : decode cX11_isSwing 78 = .ok (.iload_n 2, 1) := by decide +kernel
theorem dX11_isSwing_79 : decode cX11_isSwing 79 = .ok (.iadd, 1) := by decide +kernel
theorem dX11_isSwing_80 : decode cX11_isSwing 80 = .ok (.iaload, 1) := by decide +kernel
theorem dX11_isSwing_81 : decode cX11_isSwing 81 = .ok (.iadd, 1) := by decide +kernel
theorem dX11_isSwing_82 : decode cX11_isSwing 82 = .ok (.iload_n 3, 1) := by decide +kernel
theorem dX11_isSwing_83 : decode cX11_isSwing 83 = .ok (.if_icmp .lt 7, 3) := by decide +kernel
theorem dX11_isSwing_86 : decode cX11_isSwing 86 = .ok (.iconst 1, 1) := by decide +kernel
theorem dX11_isSwing_87 : decode cX11_isSwing 87 = .ok (.goto 4, 3) := by decide +kernel
theorem dX11_isSwing_90 : decode cX11_isSwing 90 = .ok (.iconst 0, 1) := by decide +kernel
theorem dX11_isSwing_91 : decode cX11_isSwing 91 = .ok (.ireturn, 1) := by decide +kernel
theorem dX11_feed_0 : decode cX11_feed 0 = .ok (.aload_n 0, 1) := by decide +kernel
theorem dX11_feed_1 : decode cX11_feed 1 = .ok (.getfield 12, 3) := by decide +kernel
theorem dX11_feed_4 : decode cX11_feed 4 = .ok (.getfield 103, 3) := by decide +kernel
theorem dX11_feed_7 : decode cX11_feed 7 = .ok (.bipush 20, 2) := by decide +kernel
theorem dX11_feed_9 : decode cX11_feed 9 = .ok (.iadd, 1) := by decide +kernel
theorem dX11_feed_10 : decode cX11_feed 10 = .ok (.sipush 600, 3) := by decide +kernel
theorem dX11_feed_13 : decode cX11_feed 13 = .ok (.if_icmp .le 5, 3) := by decide +kernel
theorem dX11_feed_16 : decode cX11_feed 16 = .ok (.iconst (-1), 1) := by decide +kernel
theorem dX11_feed_17 : decode cX11_feed 17 = .ok (.ireturn, 1) := by decide +kernel
theorem dX11_feed_18 : decode cX11_feed 18 = .ok (.aload_n 0, 1) := by decide +kernel
theorem dX11_feed_19 : decode cX11_feed 19 = .ok (.getfield 12, 3) := by decide +kernel
theorem dX11_feed_22 : decode cX11_feed 22 = .ok (.iload_n 1, 1) := by decide +kernel
theorem dX11_feed_23 : decode cX11_feed 23 = .ok (.invokevirtual 107, 3) := by decide +kernel
theorem dX11_feed_26 : decode cX11_feed 26 = .ok (.aload_n 0, 1) := by decide +kernel
theorem dX11_feed_27 : decode cX11_feed 27 = .ok (.getfield 12, 3) := by decide +kernel
theorem dX11_feed_30 : decode cX11_feed 30 = .ok (.iload_n 2, 1) := by decide +kernel
theorem dX11_feed_31 : decode cX11_feed 31 = .ok (.invokevirtual 107, 3) := by decide +kernel
theorem dX11_feed_34 : decode cX11_feed 34 = .ok (.aload_n 0, 1) := by decide +kernel
theorem dX11_feed_35 : decode cX11_feed 35 = .ok (.getfield 12, 3) := by decide +kernel
theorem dX11_feed_38 : decode cX11_feed 38 = .ok (.iload_n 3, 1) := by decide +kernel
theorem dX11_feed_39 : decode cX11_feed 39 = .ok (.invokevirtual 107, 3) := by decide +kernel
theorem dX11_feed_42 : decode cX11_feed 42 = .ok (.aload_n 0, 1) := by decide +kernel
theorem dX11_feed_43 : decode cX11_feed 43 = .ok (.getfield 12, 3) := by decide +kernel
theorem dX11_feed_46 : decode cX11_feed 46 = .ok (.iload 4, 2) := by decide +kernel
theorem dX11_feed_48 : decode cX11_feed 48 = .ok (.invokevirtual 107, 3) := by decide +kernel
theorem dX11_feed_51 : decode cX11_feed 51 = .ok (.aload_n 0, 1) := by decide +kernel
theorem dX11_feed_52 : decode cX11_feed 52 = .ok (.getfield 12, 3) := by decide +kernel
theorem dX11_feed_55 : decode cX11_feed 55 = .ok (.iload 5, 2) := by decide +kernel
theorem dX11_feed_57 : decode cX11_feed 57 = .ok (.invokevirtual 107, 3) := by decide +kernel
theorem dX11_feed_60 : decode cX11_feed 60 = .ok (.aload_n 0, 1) := by decide +kernel
theorem dX11_feed_61 : decode cX11_feed 61 = .ok (.getfield 12, 3) := by decide +kernel
theorem dX11_feed_64 : decode cX11_feed 64 = .ok (.getfield 103, 3) := by decide +kernel
theorem dX11_feed_67 : decode cX11_feed 67 = .ok (.ireturn, 1) := by decide +kernel
theorem dX11_isPart_0 : decode cX11_isPart 0 = .ok (.iload_n 0, 1) := by decide +kernel
theorem dX11_isPart_1 : decode cX11_isPart 1 = .ok (.ifCond .lt 13, 3) := by decide +kernel
theorem dX11_isPart_4 : decode cX11_isPart 4 = .ok (.iload_n 0, 1) := by decide +kernel
theorem dX11_isPart_5 : decode cX11_isPart 5 = .ok (.bipush 7, 2) := by decide +kernel
theorem dX11_isPart_7 : decode cX11_isPart 7 = .ok (.if_icmp .ge 7, 3) := by decide +kernel
theorem dX11_isPart_10 : decode cX11_isPart 10 = .ok (.iconst 1, 1) := by decide +kernel
theorem dX11_isPart_11 : decode cX11_isPart 11 = .ok (.goto 4, 3) := by decide +kernel
theorem dX11_isPart_14 : decode cX11_isPart 14 = .ok (.iconst 0, 1) := by decide +kernel
theorem dX11_isPart_15 : decode cX11_isPart 15 = .ok (.ireturn, 1) := by decide +kernel
theorem dX11_fault_0 : decode cX11_fault 0 = .ok (.aload_n 0, 1) := by decide +kernel
theorem dX11_fault_1 : decode cX11_fault 1 = .ok (.getfield 12, 3) := by decide +kernel
theorem dX11_fault_4 : decode cX11_fault 4 = .ok (.getfield 180, 3) := by decide +kernel
theorem dX11_fault_7 : decode cX11_fault 7 = .ok (.ireturn, 1) := by decide +kernel
theorem inU_X11 : ∀ w ∈ u_ws RX11 TX11 18, w ∈ BIG := by
  have h : u_ws RX11 TX11 18 = [457, 459, 461, 463, 465, 467, 469, 471, 473, 475, 477, 479, 481, 483, 485, 487, 489, 491].filterMap (fun i => lw_tbl[i]?) := by decide +kernel
  have g : (u_ws RX11 TX11 18).all goodWord = true := by decide +kernel
  intro w hw
  refine inB ?_ (List.all_eq_true.mp g w hw)
  rw [h] at hw
  obtain ⟨i, -, hi⟩ := List.mem_filterMap.mp hw
  exact List.mem_of_getElem? hi
theorem fl_X11_12 : FL RX11 12 11 0 := ⟨RX11, TX11, 18, rfl, rfl, by decide, inU_X11, Or.inl (inBi 439 (by decide +kernel))⟩
theorem fl_X11_103 : FL RX11 103 8 1 := ⟨RX8, TX8, 6, rfl, rfl, by decide, inU_X8, Or.inr ⟨_, inNi (w := .fieldLinkNest "PartedFellows" 103 "PartedFellows$Tape" "filled" "I" "PartedFellows") 135 (by decide +kernel)⟩⟩
set_option maxRecDepth 20000 in
theorem cw_X8_put : Cond.code yX8_put cX8_put 3 none ∈ BIG := inB (List.mem_of_getElem? (i := 501) rfl) rfl
theorem mv_X11_107 : MV RX11 107 yX8_put cX8_put 3 none 1 := ⟨inBi 498 (by decide +kernel), inBi 499 (by decide +kernel), inBi 500 (by decide +kernel), inBi 95 (by decide +kernel), cw_X8_put, by decide +kernel, by decide +kernel, by decide +kernel⟩
theorem fl_X11_180 : FL RX11 180 8 5 := ⟨RX8, TX8, 6, rfl, rfl, by decide, inU_X8, Or.inr ⟨_, inNi (w := .fieldLinkNest "PartedFellows" 180 "PartedFellows$Tape" "faultPlace" "I" "PartedFellows") 142 (by decide +kernel)⟩⟩
theorem fl_X11_74 : FL RX11 74 11 10 := ⟨RX11, TX11, 18, rfl, rfl, by decide, inU_X11, Or.inl (inBi 449 (by decide +kernel))⟩
theorem fl_X11_135 : FL RX11 135 7 1 := ⟨RX7, TX7, 2, rfl, rfl, by decide, inU_X7, Or.inr ⟨_, inNi (w := .fieldLinkNest "PartedFellows" 135 "PartedFellows$Past" "works" "I" "PartedFellows") 354 (by decide +kernel)⟩⟩
theorem fl_X11_67 : FL RX11 67 11 9 := ⟨RX11, TX11, 18, rfl, rfl, by decide, inU_X11, Or.inl (inBi 448 (by decide +kernel))⟩
theorem fp_X11_141 : FP RX11 141 11 13 := ⟨RX11, TX11, 18, tyX11, rfl, rfl, by decide, inU_X11, Or.inl (inBi 452 (by decide +kernel)), tyX11_ok, nmX11, rfl, by decide +kernel⟩
set_option maxRecDepth 20000 in
theorem cw_X7_popInto : Cond.code yX7_popInto cX7_popInto 2 none ∈ BIG := inB (List.mem_of_getElem? (i := 513) rfl) rfl
theorem mv_X11_183 : MV RX11 183 yX7_popInto cX7_popInto 2 none 1 := ⟨inBi 510 (by decide +kernel), inBi 511 (by decide +kernel), inBi 512 (by decide +kernel), inBi 102 (by decide +kernel), cw_X7_popInto, by decide +kernel, by decide +kernel, by decide +kernel⟩
theorem fl_X11_19 : FL RX11 19 11 1 := ⟨RX11, TX11, 18, rfl, rfl, by decide, inU_X11, Or.inl (inBi 440 (by decide +kernel))⟩
theorem fl_X11_144 : FL RX11 144 1 3 := ⟨RX1, TX1, 6, rfl, rfl, by decide, inU_X1, Or.inr ⟨_, inNi (w := .fieldLinkNest "PartedFellows" 144 "PartedFellows$College" "fellows" "I" "PartedFellows") 173 (by decide +kernel)⟩⟩
theorem fl_X11_171 : FL RX11 171 1 5 := ⟨RX1, TX1, 6, rfl, rfl, by decide, inU_X1, Or.inr ⟨_, inNi (w := .fieldLinkNest "PartedFellows" 171 "PartedFellows$College" "places" "I" "PartedFellows") 183 (by decide +kernel)⟩⟩
theorem fl_X11_204 : FL RX11 204 2 0 := ⟨RX2, TX2, 6, rfl, rfl, by decide, inU_X2, Or.inr ⟨_, inNi (w := .fieldLinkNest "PartedFellows" 204 "PartedFellows$Hall" "within" "[I" "PartedFellows") 311 (by decide +kernel)⟩⟩
set_option maxRecDepth 20000 in
theorem cw_X11_gain : Cond.code yX11_gain cX11_gain 4 (some .int) ∈ BIG := inB (List.mem_of_getElem? (i := 1215) rfl) rfl
theorem ms_X11_341 : MS RX11 341 yX11_gain cX11_gain 4 (some .int) 4 := ⟨Or.inl (inBi 1213 (by decide +kernel)), inBi 1214 (by decide +kernel), inBi 94 (by decide +kernel), cw_X11_gain, by decide +kernel, by decide +kernel, by decide +kernel⟩
set_option maxRecDepth 20000 in
theorem cw_X2_muchNear : Cond.code yX2_muchNear cX2_muchNear 5 (some .int) ∈ BIG := inB (List.mem_of_getElem? (i := 528) rfl) rfl
theorem mv_X11_258 : MV RX11 258 yX2_muchNear cX2_muchNear 5 (some .int) 2 := ⟨inBi 525 (by decide +kernel), inBi 526 (by decide +kernel), inBi 527 (by decide +kernel), inBi 101 (by decide +kernel), cw_X2_muchNear, by decide +kernel, by decide +kernel, by decide +kernel⟩
theorem fl_X11_138 : FL RX11 138 11 12 := ⟨RX11, TX11, 18, rfl, rfl, by decide, inU_X11, Or.inl (inBi 451 (by decide +kernel))⟩
theorem fl_X11_80 : FL RX11 80 11 11 := ⟨RX11, TX11, 18, rfl, rfl, by decide, inU_X11, Or.inl (inBi 450 (by decide +kernel))⟩
theorem inU_X3 : ∀ w ∈ u_ws RX3 TX3 2, w ∈ BIG := by
  have h : u_ws RX3 TX3 2 = [375, 377].filterMap (fun i => lw_tbl[i]?) := by decide +kernel
  have g : (u_ws RX3 TX3 2).all goodWord = true := by decide +kernel
  intro w hw
  refine inB ?_ (List.all_eq_true.mp g w hw)
  rw [h] at hw
  obtain ⟨i, -, hi⟩ := List.mem_filterMap.mp hw
  exact List.mem_of_getElem? hi
theorem fl_X11_378 : FL RX11 378 3 0 := ⟨RX3, TX3, 2, rfl, rfl, by decide, inU_X3, Or.inr ⟨_, inNi (w := .fieldLinkNest "PartedFellows" 378 "PartedFellows$Image" "hall" "LPartedFellows$Hall;" "PartedFellows") 372 (by decide +kernel)⟩⟩
theorem fl_X11_381 : FL RX11 381 3 1 := ⟨RX3, TX3, 2, rfl, rfl, by decide, inU_X3, Or.inr ⟨_, inNi (w := .fieldLinkNest "PartedFellows" 381 "PartedFellows$Image" "past" "LPartedFellows$Past;" "PartedFellows") 374 (by decide +kernel)⟩⟩
theorem fp_X11_138 : FP RX11 138 11 12 := ⟨RX11, TX11, 18, tyX11, rfl, rfl, by decide, inU_X11, Or.inl (inBi 451 (by decide +kernel)), tyX11_ok, nmX11, rfl, by decide +kernel⟩
set_option maxRecDepth 20000 in
theorem cw_X7_copyFrom : Cond.code yX7_copyFrom cX7_copyFrom 3 none ∈ BIG := inB (List.mem_of_getElem? (i := 540) rfl) rfl
theorem mv_X11_382 : MV RX11 382 yX7_copyFrom cX7_copyFrom 3 none 1 := ⟨inBi 537 (by decide +kernel), inBi 538 (by decide +kernel), inBi 539 (by decide +kernel), inBi 102 (by decide +kernel), cw_X7_copyFrom, by decide +kernel, by decide +kernel, by decide +kernel⟩
theorem mv_X11_379 : MV RX11 379 yX2_copyFrom cX2_copyFrom 2 none 1 := ⟨inBi 536 (by decide +kernel), inBi 515 (by decide +kernel), inBi 516 (by decide +kernel), inBi 101 (by decide +kernel), cw_X2_copyFrom, by decide +kernel, by decide +kernel, by decide +kernel⟩
theorem fl_X11_388 : FL RX11 388 11 17 := ⟨RX11, TX11, 18, rfl, rfl, by decide, inU_X11, Or.inl (inBi 456 (by decide +kernel))⟩
theorem fl_X11_385 : FL RX11 385 11 16 := ⟨RX11, TX11, 18, rfl, rfl, by decide, inU_X11, Or.inl (inBi 455 (by decide +kernel))⟩
def fX11_feed (sh : Shp) (x0 : Nat) (x1 : Int32) (x2 : Int32) (x3 : Int32) (x4 : Int32) (x5 : Int32) (mm : Mem) : Option (Int32 × Mem) :=
  (rR sh 11 x0 0).bind fun a1 =>
  (rI sh mm 8 a1 1).bind fun v2 =>
  if (v2 + 20) ≤ 600 then ((rR sh 11 x0 0).bind fun a4 =>
  (isO sh 8 a4).bind fun _ =>
  (fX8_put sh a4 x1 mm).bind fun m5 =>
  (rR sh 11 x0 0).bind fun a6 =>
  (isO sh 8 a6).bind fun _ =>
  (fX8_put sh a6 x2 m5).bind fun m7 =>
  (rR sh 11 x0 0).bind fun a8 =>
  (isO sh 8 a8).bind fun _ =>
  (fX8_put sh a8 x3 m7).bind fun m9 =>
  (rR sh 11 x0 0).bind fun a10 =>
  (isO sh 8 a10).bind fun _ =>
  (fX8_put sh a10 x4 m9).bind fun m11 =>
  (rR sh 11 x0 0).bind fun a12 =>
  (isO sh 8 a12).bind fun _ =>
  (fX8_put sh a12 x5 m11).bind fun m13 =>
  (rR sh 11 x0 0).bind fun a14 =>
  (rI sh m13 8 a14 1).bind fun v15 =>
  some (v15, m13))
  else (some ((-1), mm))
def fX11_fault (sh : Shp) (x0 : Nat) (mm : Mem) : Option (Int32) :=
  (rR sh 11 x0 0).bind fun a1 =>
  (rI sh mm 8 a1 5).bind fun v2 =>
  some v2
def fX11_undo (sh : Shp) (x0 : Nat) (mm : Mem) : Option (Int32 × Mem) :=
  (rR sh 11 x0 10).bind fun a1 =>
  (rI sh mm 7 a1 1).bind fun v2 =>
  if v2 = 0 then (some ((-1), mm))
  else ((rR sh 11 x0 10).bind fun a4 =>
  (rR sh 11 x0 9).bind fun a5 =>
  (isO sh 7 a4).bind fun _ =>
  (fX7_popInto sh a4 a5 mm).bind fun m6 =>
  (wI sh m6 11 x0 13 0).bind fun m7 =>
  (rR sh 11 x0 10).bind fun a8 =>
  (rI sh m7 7 a8 1).bind fun v9 =>
  some (v9, m7))
def fX11_isFellow_j20 (sh : Shp) (s0 : Int32) (mm : Mem) : Option (Int32) :=
  (ckZ s0).bind fun v1 => some v1
def fX11_isFellow_j19 (sh : Shp) (mm : Mem) : Option (Int32) :=
  fX11_isFellow_j20 sh 0 mm
def fX11_isFellow (sh : Shp) (x0 : Nat) (x1 : Int32) (mm : Mem) : Option (Int32) :=
  if x1 < 0 then (fX11_isFellow_j19 sh mm)
  else ((rR sh 11 x0 1).bind fun a3 =>
  (rI sh mm 1 a3 3).bind fun v4 =>
  if v4 ≤ x1 then (fX11_isFellow_j19 sh mm)
  else (fX11_isFellow_j20 sh 1 mm))
def fX11_isPart_j15 (s0 : Int32) : Option (Int32) :=
  (ckZ s0).bind fun v1 => some v1
def fX11_isPart_j14 : Option (Int32) :=
  fX11_isPart_j15 0
def fX11_isPart (x0 : Int32) : Option (Int32) :=
  if x0 < 0 then (fX11_isPart_j14 )
  else (if 7 ≤ x0 then (fX11_isPart_j14 )
  else (fX11_isPart_j15 1))
def fX11_isPlace_j20 (sh : Shp) (s0 : Int32) (mm : Mem) : Option (Int32) :=
  (ckZ s0).bind fun v1 => some v1
def fX11_isPlace_j19 (sh : Shp) (mm : Mem) : Option (Int32) :=
  fX11_isPlace_j20 sh 0 mm
def fX11_isPlace (sh : Shp) (x0 : Nat) (x1 : Int32) (mm : Mem) : Option (Int32) :=
  if x1 < 0 then (fX11_isPlace_j19 sh mm)
  else ((rR sh 11 x0 1).bind fun a3 =>
  (rI sh mm 1 a3 5).bind fun v4 =>
  if v4 ≤ x1 then (fX11_isPlace_j19 sh mm)
  else (fX11_isPlace_j20 sh 1 mm))
def fX11_areFellows_j22 (sh : Shp) (s0 : Int32) (mm : Mem) : Option (Int32) :=
  (ckZ s0).bind fun v1 => some v1
def fX11_areFellows_j21 (sh : Shp) (mm : Mem) : Option (Int32) :=
  fX11_areFellows_j22 sh 0 mm
def fX11_areFellows (sh : Shp) (x0 : Nat) (x1 : Int32) (mm : Mem) : Option (Int32) :=
  if x1 < 0 then (fX11_areFellows_j21 sh mm)
  else ((rR sh 11 x0 1).bind fun a3 =>
  (rI sh mm 1 a3 3).bind fun v4 =>
  if (1 <<< (v4 &&& 31)) ≤ x1 then (fX11_areFellows_j21 sh mm)
  else (fX11_areFellows_j22 sh 1 mm))
def fX11_isQuota_j17 (s0 : Int32) : Option (Int32) :=
  (ckZ s0).bind fun v1 => some v1
def fX11_isQuota_j16 : Option (Int32) :=
  fX11_isQuota_j17 0
def fX11_isQuota (x0 : Int32) : Option (Int32) :=
  if x0 < 1 then (fX11_isQuota_j16 )
  else (if 2800 < x0 then (fX11_isQuota_j16 )
  else (fX11_isQuota_j17 1))
def fX11_isSwing_j91 (sh : Shp) (s0 : Int32) (mm : Mem) : Option (Int32) :=
  (ckZ s0).bind fun v1 => some v1
def fX11_isSwing_j90 (sh : Shp) (mm : Mem) : Option (Int32) :=
  fX11_isSwing_j91 sh 0 mm
def fX11_isSwing_j59 (sh : Shp) (x0 : Nat) (x1 : Int32) (x2 : Int32) (x3 : Int32) (x5 : Int32) (mm : Mem) : Option (Int32) :=
  if x3 ≤ x5 then (fX11_isSwing_j90 sh mm)
  else ((rR sh 11 x0 9).bind fun a3 =>
  (rR sh 2 a3 0).bind fun a4 =>
  (aL sh mm a4 ((x1 * 7) + x2)).bind fun v5 =>
  if (x5 + v5) < x3 then (fX11_isSwing_j90 sh mm)
  else (fX11_isSwing_j91 sh 1 mm))
def fX11_isSwing_b18 (sh : Shp) (x0 : Nat) (x1 : Int32) (x2 : Int32) (x3 : Int32) (x4 : Int32) (x5 : Int32) (x6 : Int32) (mm : Mem) : Option ((Int32 × Int32) ⊕ ((Int32))) :=
  if 7 ≤ x6 then (some (.inr x5))
  else ((rR sh 11 x0 9).bind fun a11 =>
  (rR sh 2 a11 0).bind fun a12 =>
  (aL sh mm a12 ((x1 * 7) + x6)).bind fun v13 =>
  lt1 (x5 + (((x4 >>> (x6 &&& 31)) &&& 1) * v13)) fun x5_14 =>
  lt1 (x6 + 1) fun x6_15 =>
  some (.inl (x5_14, x6_15)))
def fX11_isSwing (sh : Shp) (x0 : Nat) (x1 : Int32) (x2 : Int32) (x3 : Int32) (x4 : Int32) (mm : Mem) : Option (Int32) :=
  if ((x4 >>> (x2 &&& 31)) &&& 1) = 1 then (some 0)
  else (lt1 0 fun x5_8 =>
  lt1 0 fun x6_9 =>
  (loopN (fun st : Int32 × Int32 => fX11_isSwing_b18 sh x0 x1 x2 x3 x4 st.1 st.2 mm) FU (x5_8, x6_9)).bind (fun t => fX11_isSwing_j59 sh x0 x1 x2 x3 t mm))
def fX11_inLeastTerms_j68 (s0 : Int64) : Option (Int64) :=
  some s0
def fX11_inLeastTerms_j44 (x0 : Int64) (x2 : Int64) (x4 : Int32) (x5 : Int64) : Option (Int64) :=
  lt1 (mxL 1 x5) fun x9_1 =>
  if x4 = 0 then ((dvL x0 x9_1).bind fun v4 =>
  fX11_inLeastTerms_j68 v4)
  else ((dvL x2 x9_1).bind fun v3 =>
  fX11_inLeastTerms_j68 v3)
def fX11_inLeastTerms_b9 (x0 : Int64) (x2 : Int64) (x4 : Int32) (x5 : Int64) (x7 : Int64) (x9 : Int32) : Option ((Int64 × Int64 × Int32) ⊕ ((Int64))) :=
  if 100 ≤ x9 then (some (.inr x5))
  else (if (lg_cmp x7 0) = 0 then (some (.inr x5))
  else ((rmL x5 x7).bind fun v10 =>
  lt1 v10 fun x10_11 =>
  lt1 x7 fun x5_12 =>
  lt1 x10_11 fun x7_13 =>
  lt1 (x9 + 1) fun x9_14 =>
  some (.inl (x5_12, x7_13, x9_14))))
def fX11_inLeastTerms (x0 : Int64) (x2 : Int64) (x4 : Int32) : Option (Int64) :=
  lt1 x0 fun x5_5 =>
  lt1 x2 fun x7_6 =>
  lt1 0 fun x9_7 =>
  (loopN (fun st : Int64 × Int64 × Int32 => fX11_inLeastTerms_b9 x0 x2 x4 st.1 st.2.1 st.2.2) FU (x5_5, x7_6, x9_7)).bind (fun t => fX11_inLeastTerms_j44 x0 x2 x4 t)
def fX11_gain_j18 (s0 : Int32) : Option (Int32) :=
  some s0
def fX11_gain (x0 : Int32) (x1 : Int32) (x2 : Int32) (x3 : Int32) : Option (Int32) :=
  if x0 = x1 then (fX11_gain_j18 0)
  else (if x0 = 0 then (fX11_gain_j18 x2)
  else (fX11_gain_j18 x3))
def fX11_wouldStay_j24 (s0 : Int32) : Option (Int32) :=
  (ckZ s0).bind fun v1 => some v1
def fX11_wouldStay (x0 : Int32) (x1 : Int32) (x2 : Int32) (x3 : Int32) : Option (Int32) :=
  (fX11_gain x0 x1 x2 x3).bind fun v2 =>
  (fX11_gain (1 - x0) x1 x2 x3).bind fun v3 =>
  if v2 < v3 then (fX11_wouldStay_j24 0)
  else (fX11_wouldStay_j24 1)
def fX11_lit_j41 (sh : Shp) (x1 : Int32) (mm : Mem) : Option (Int32) :=
  some x1
def fX11_lit_j33 (sh : Shp) (x0 : Nat) (x2 : Int32) (s0 : Int32) (s1 : Int32) (mm : Mem) : Option ((Int32 × Int32) ⊕ ((Int32))) :=
  lt1 (s0 + s1) fun x1_3 =>
  lt1 (x2 + 1) fun x2_4 =>
  some (.inl (x1_3, x2_4))
def fX11_lit_b4 (sh : Shp) (x0 : Nat) (x1 : Int32) (x2 : Int32) (mm : Mem) : Option ((Int32 × Int32) ⊕ ((Int32))) :=
  (rR sh 11 x0 1).bind fun a5 =>
  (rI sh mm 1 a5 5).bind fun v6 =>
  if v6 ≤ x2 then (some (.inr x1))
  else ((rR sh 11 x0 9).bind fun a8 =>
  (isO sh 2 a8).bind fun _ =>
  (fX2_muchNear sh a8 x2 0 mm).bind fun v9 =>
  if v9 ≤ 0 then (fX11_lit_j33 sh x0 x2 x1 0 mm)
  else (fX11_lit_j33 sh x0 x2 x1 1 mm))
def fX11_lit (sh : Shp) (x0 : Nat) (mm : Mem) : Option (Int32) :=
  lt1 0 fun x1_1 =>
  lt1 0 fun x2_2 =>
  (loopN (fun st : Int32 × Int32 => fX11_lit_b4 sh x0 st.1 st.2 mm) FU (x1_1, x2_2)).bind (fun t => fX11_lit_j41 sh t mm)
def fX11_isTerm_j26 (s0 : Int32) : Option (Int32) :=
  (ckZ s0).bind fun v1 => some v1
def fX11_isTerm_j25 : Option (Int32) :=
  fX11_isTerm_j26 0
def fX11_isTerm (x0 : Int32) (x1 : Int32) : Option (Int32) :=
  if x0 < 0 then (fX11_isTerm_j25 )
  else (if 16 < x0 then (fX11_isTerm_j25 )
  else (if x1 < 1 then (fX11_isTerm_j25 )
  else (if 48 < x1 then (fX11_isTerm_j25 )
  else (fX11_isTerm_j26 1))))
def fX11_image (sh : Shp) (x0 : Nat) (mm : Mem) : Option (Int32 × Mem) :=
  (rI sh mm 11 x0 12).bind fun v1 =>
  if v1 < 3 then ((rR sh 11 x0 11).bind fun a3 =>
  (rI sh mm 11 x0 12).bind fun v4 =>
  (aR sh a3 v4).bind fun a5 =>
  (rR sh 3 a5 0).bind fun a6 =>
  (rR sh 11 x0 9).bind fun a7 =>
  (isO sh 2 a6).bind fun _ =>
  (fX2_copyFrom sh a6 a7 mm).bind fun m8 =>
  (rR sh 11 x0 11).bind fun a9 =>
  (rI sh m8 11 x0 12).bind fun v10 =>
  (aR sh a9 v10).bind fun a11 =>
  (rR sh 3 a11 1).bind fun a12 =>
  (rR sh 11 x0 10).bind fun a13 =>
  (isO sh 7 a12).bind fun _ =>
  (fX7_copyFrom sh a12 a13 m8).bind fun m14 =>
  (rI sh m14 11 x0 12).bind fun v15 =>
  (wI sh m14 11 x0 12 (v15 + 1)).bind fun m16 =>
  (rI sh m16 11 x0 12).bind fun v17 =>
  some (v17, m16))
  else (some ((-1), mm))
def fX11_restore (sh : Shp) (x0 : Nat) (mm : Mem) : Option (Int32 × Mem) :=
  (rI sh mm 11 x0 12).bind fun v1 =>
  if v1 = 0 then (some ((-1), mm))
  else ((rI sh mm 11 x0 12).bind fun v3 =>
  (wI sh mm 11 x0 12 (v3 - 1)).bind fun m4 =>
  (rR sh 11 x0 9).bind fun a5 =>
  (rR sh 11 x0 11).bind fun a6 =>
  (rI sh m4 11 x0 12).bind fun v7 =>
  (aR sh a6 v7).bind fun a8 =>
  (rR sh 3 a8 0).bind fun a9 =>
  (isO sh 2 a5).bind fun _ =>
  (fX2_copyFrom sh a5 a9 m4).bind fun m10 =>
  (rR sh 11 x0 10).bind fun a11 =>
  (rR sh 11 x0 11).bind fun a12 =>
  (rI sh m10 11 x0 12).bind fun v13 =>
  (aR sh a12 v13).bind fun a14 =>
  (rR sh 3 a14 1).bind fun a15 =>
  (isO sh 7 a11).bind fun _ =>
  (fX7_copyFrom sh a11 a15 m10).bind fun m16 =>
  (wI sh m16 11 x0 13 0).bind fun m17 =>
  (rI sh m17 11 x0 12).bind fun v18 =>
  some (v18, m17))
def fX11_status_j24 (sh : Shp) (s0 : Int32) (mm : Mem) : Option (Int32) :=
  some s0
def fX11_status (sh : Shp) (x0 : Nat) (x1 : Int32) (mm : Mem) : Option (Int32) :=
  if x1 = 0 then ((rI sh mm 11 x0 16).bind fun v4 =>
  fX11_status_j24 sh v4 mm)
  else (if x1 = 1 then ((rI sh mm 11 x0 17).bind fun v3 =>
  fX11_status_j24 sh v3 mm)
  else (fX11_status_j24 sh (-1) mm))
def fX11_count (sh : Shp) (x0 : Nat) (x1 : Int32) (mm : Mem) : Option (Int32) :=
  if x1 = 0 then ((rI sh mm 11 x0 12).bind fun v1 =>
  some v1)
  else if x1 = 1 then ((rR sh 11 x0 0).bind fun a3 =>
  (rI sh mm 8 a3 1).bind fun v4 =>
  some v4)
  else if x1 = 2 then ((rR sh 11 x0 10).bind fun a6 =>
  (rI sh mm 7 a6 1).bind fun v7 =>
  some v7)
  else (some (-1))
set_option maxHeartbeats 4000000 in
set_option maxRecDepth 100000 in
theorem wX11_feed {p : Program} {l : Launch} {e : Env} {R : Room} {s : State} {m : MethodId} {args : Array Value} {below : List Frame} {meth : Method} {c : Code} {Q : State → Prop} {E : Ev} (X : Cx p s m args c cX11_feed RX11 E) (hml : c.maxLocals = 6) (hR : 1 ≤ R.frames ∧ 22 ≤ R.locals) {x0 : Nat} {x1 : Int32} {x2 : Int32} {x3 : Int32} {x4 : Int32} {x5 : Int32} {mm : Mem} {r : Int32} {mm1 : Mem} (hf : fX11_feed (eS E) x0 x1 x2 x3 x4 x5 mm = some (r, mm1)) (hret : ∀ (pc : Nat) (H : Heap) (locs : List Loc) (ls : Array Slot), narrow .int (.int r) = .int r → decode cX11_feed pc = .ok (.ireturn, 1) → wS E s mm1 H locs → W p l e R s m args below meth c H locs 0 0 Q (F0 m pc ls [.int r])) : ∀ (H : Heap) (locs : List Loc) (ls : Array Slot), wS E s mm H locs → lv_has ls 6 [(0, .ref x0), (1, .int x1), (2, .int x2), (3, .int x3), (4, .int x4), (5, .int x5)] → W p l e R s m args below meth c H locs 0 0 Q (F0 m 0 ls []) := by
  have hx := X.1
  have hb := X.2.1
  have hR1 := hR.1
  have hR2 := hR.2
  have hRa : 1 ≤ R.frames := by omega
  have hRb : 22 ≤ R.locals := by omega
  unfold fX11_feed at hf
  intro H locs ls hS hl
  refine lv_aload_n hx hb dX11_feed_0 rfl (lv_at hl 0 rfl) ?_
  obtain ⟨a1, h1, hf⟩ := bs hf
  refine am_gr X hS fl_X11_12 rfl h1 dX11_feed_1 ?_
  obtain ⟨v2, h1, hf⟩ := bs hf
  refine am_gi X hS fl_X11_103 rfl h1 dX11_feed_4 ?_
  refine lv_bipush (v := 20) hx hb dX11_feed_7 (by decide) ?_
  refine lv_iadd hx hb dX11_feed_9 ?_
  refine lv_sipush (v := 600) hx hb dX11_feed_10 (by decide) ?_
  refine lv_icmp_le (tgt := 18) hx hb dX11_feed_13 (by decide) (fun q3 => ?_) (fun q3 => ?_)
  · have hf := ifp hf q3
    refine lv_aload_n hx hb dX11_feed_18 rfl (lv_at hl 0 rfl) ?_
    obtain ⟨a4, h1, hf⟩ := bs hf
    refine am_gr X hS fl_X11_12 rfl h1 dX11_feed_19 ?_
    refine lv_iload_n hx hb dX11_feed_22 rfl (lv_at hl 1 rfl) ?_
    obtain ⟨u0, h0, hf⟩ := bs hf
    obtain ⟨_, hrc⟩ := isO_n h0
    obtain ⟨m5, h1, hf⟩ := bs hf
    refine am_endv hS (am_runV (As := [.int x1]) X (hml.trans hl.1.symm) hS (cX8_put_ok (l := l) (E := E) h1) mv_X11_107 hrc rfl ⟨Nat.le_trans (by decide) hRa, Nat.le_trans (by decide) hRb⟩ ⟨Nat.zero_le _, Nat.zero_le _⟩ rfl rfl (Nat.le_of_ble_eq_true rfl) dX11_feed_23) (fun H locs hS => ?_)
    refine lv_aload_n hx hb dX11_feed_26 rfl (lv_at hl 0 rfl) ?_
    obtain ⟨a6, h1, hf⟩ := bs hf
    refine am_gr X hS fl_X11_12 rfl h1 dX11_feed_27 ?_
    refine lv_iload_n hx hb dX11_feed_30 rfl (lv_at hl 2 rfl) ?_
    obtain ⟨u0, h0, hf⟩ := bs hf
    obtain ⟨_, hrc⟩ := isO_n h0
    obtain ⟨m7, h1, hf⟩ := bs hf
    refine am_endv hS (am_runV (As := [.int x2]) X (hml.trans hl.1.symm) hS (cX8_put_ok (l := l) (E := E) h1) mv_X11_107 hrc rfl ⟨Nat.le_trans (by decide) hRa, Nat.le_trans (by decide) hRb⟩ ⟨Nat.zero_le _, Nat.zero_le _⟩ rfl rfl (Nat.le_of_ble_eq_true rfl) dX11_feed_31) (fun H locs hS => ?_)
    refine lv_aload_n hx hb dX11_feed_34 rfl (lv_at hl 0 rfl) ?_
    obtain ⟨a8, h1, hf⟩ := bs hf
    refine am_gr X hS fl_X11_12 rfl h1 dX11_feed_35 ?_
    refine lv_iload_n hx hb dX11_feed_38 rfl (lv_at hl 3 rfl) ?_
    obtain ⟨u0, h0, hf⟩ := bs hf
    obtain ⟨_, hrc⟩ := isO_n h0
    obtain ⟨m9, h1, hf⟩ := bs hf
    refine am_endv hS (am_runV (As := [.int x3]) X (hml.trans hl.1.symm) hS (cX8_put_ok (l := l) (E := E) h1) mv_X11_107 hrc rfl ⟨Nat.le_trans (by decide) hRa, Nat.le_trans (by decide) hRb⟩ ⟨Nat.zero_le _, Nat.zero_le _⟩ rfl rfl (Nat.le_of_ble_eq_true rfl) dX11_feed_39) (fun H locs hS => ?_)
    refine lv_aload_n hx hb dX11_feed_42 rfl (lv_at hl 0 rfl) ?_
    obtain ⟨a10, h1, hf⟩ := bs hf
    refine am_gr X hS fl_X11_12 rfl h1 dX11_feed_43 ?_
    refine lv_iload hx hb dX11_feed_46 (lv_at hl 4 rfl) ?_
    obtain ⟨u0, h0, hf⟩ := bs hf
    obtain ⟨_, hrc⟩ := isO_n h0
    obtain ⟨m11, h1, hf⟩ := bs hf
    refine am_endv hS (am_runV (As := [.int x4]) X (hml.trans hl.1.symm) hS (cX8_put_ok (l := l) (E := E) h1) mv_X11_107 hrc rfl ⟨Nat.le_trans (by decide) hRa, Nat.le_trans (by decide) hRb⟩ ⟨Nat.zero_le _, Nat.zero_le _⟩ rfl rfl (Nat.le_of_ble_eq_true rfl) dX11_feed_48) (fun H locs hS => ?_)
    refine lv_aload_n hx hb dX11_feed_51 rfl (lv_at hl 0 rfl) ?_
    obtain ⟨a12, h1, hf⟩ := bs hf
    refine am_gr X hS fl_X11_12 rfl h1 dX11_feed_52 ?_
    refine lv_iload hx hb dX11_feed_55 (lv_at hl 5 rfl) ?_
    obtain ⟨u0, h0, hf⟩ := bs hf
    obtain ⟨_, hrc⟩ := isO_n h0
    obtain ⟨m13, h1, hf⟩ := bs hf
    refine am_endv hS (am_runV (As := [.int x5]) X (hml.trans hl.1.symm) hS (cX8_put_ok (l := l) (E := E) h1) mv_X11_107 hrc rfl ⟨Nat.le_trans (by decide) hRa, Nat.le_trans (by decide) hRb⟩ ⟨Nat.zero_le _, Nat.zero_le _⟩ rfl rfl (Nat.le_of_ble_eq_true rfl) dX11_feed_57) (fun H locs hS => ?_)
    refine lv_aload_n hx hb dX11_feed_60 rfl (lv_at hl 0 rfl) ?_
    obtain ⟨a14, h1, hf⟩ := bs hf
    refine am_gr X hS fl_X11_12 rfl h1 dX11_feed_61 ?_
    obtain ⟨v15, h1, hf⟩ := bs hf
    refine am_gi X hS fl_X11_103 rfl h1 dX11_feed_64 ?_
    cases hf
    exact hret _ _ _ _ rfl dX11_feed_67 hS
  · have hf := ifn hf q3
    refine lv_iconst (v := (-1)) hx hb dX11_feed_16 (by decide) ?_
    cases hf
    exact hret _ _ _ _ rfl dX11_feed_17 hS
set_option maxRecDepth 100000 in
theorem cX11_feed_ok {l : Launch} {E : Ev} {x0 : Nat} {x1 : Int32} {x2 : Int32} {x3 : Int32} {x4 : Int32} {x5 : Int32} {mm : Mem} {r : Int32} {mm1 : Mem} (hf : fX11_feed (eS E) x0 x1 x2 x3 x4 x5 mm = some (r, mm1)) : CtI l yX11_feed cX11_feed 6 (some .int) (1) (22) E [.ref x0, .int x1, .int x2, .int x3, .int x4, .int x5] mm r mm1 := by
  refine Met.ofW (cc := cX11_feed) (maxL := 6) (ret := (some .int)) (by decide) rfl ?_
  intro p e s m args below meth c s₁ B hml hv
  obtain ⟨rfl, X, hS, hr, hlocks⟩ := am_in B hv
  refine am_entry (Nat.le_of_ble_eq_true rfl) (fun ls hl => ?_)
  exact wX11_feed X hml ⟨Nat.le_refl _, Nat.le_refl _⟩ hf (fun pc H locs ls hn hd hS => am_ri X hS hr hn hd hlocks) _ _ ls hS hl
set_option maxHeartbeats 4000000 in
set_option maxRecDepth 100000 in
theorem wX11_fault {p : Program} {l : Launch} {e : Env} {R : Room} {s : State} {m : MethodId} {args : Array Value} {below : List Frame} {meth : Method} {c : Code} {Q : State → Prop} {E : Ev} (X : Cx p s m args c cX11_fault RX11 E) (hml : c.maxLocals = 1) (hR : 0 ≤ R.frames ∧ 0 ≤ R.locals) {x0 : Nat} {mm : Mem} {r : Int32} (hf : fX11_fault (eS E) x0 mm = some r) (hret : ∀ (pc : Nat) (H : Heap) (locs : List Loc) (ls : Array Slot), narrow .int (.int r) = .int r → decode cX11_fault pc = .ok (.ireturn, 1) → wS E s mm H locs → W p l e R s m args below meth c H locs 0 0 Q (F0 m pc ls [.int r])) : ∀ (H : Heap) (locs : List Loc) (ls : Array Slot), wS E s mm H locs → lv_has ls 1 [(0, .ref x0)] → W p l e R s m args below meth c H locs 0 0 Q (F0 m 0 ls []) := by
  have hx := X.1
  have hb := X.2.1
  have hR1 := hR.1
  have hR2 := hR.2
  have hRa : 0 ≤ R.frames := by omega
  have hRb : 0 ≤ R.locals := by omega
  unfold fX11_fault at hf
  intro H locs ls hS hl
  refine lv_aload_n hx hb dX11_fault_0 rfl (lv_at hl 0 rfl) ?_
  obtain ⟨a1, h1, hf⟩ := bs hf
  refine am_gr X hS fl_X11_12 rfl h1 dX11_fault_1 ?_
  obtain ⟨v2, h1, hf⟩ := bs hf
  refine am_gi X hS fl_X11_180 rfl h1 dX11_fault_4 ?_
  cases hf
  exact hret _ _ _ _ rfl dX11_fault_7 hS
set_option maxRecDepth 100000 in
theorem cX11_fault_ok {l : Launch} {E : Ev} {x0 : Nat} {mm : Mem} {r : Int32} (hf : fX11_fault (eS E) x0 mm = some r) : CtI l yX11_fault cX11_fault 1 (some .int) (0) (0) E [.ref x0] mm r mm := by
  refine Met.ofW (cc := cX11_fault) (maxL := 1) (ret := (some .int)) (by decide) rfl ?_
  intro p e s m args below meth c s₁ B hml hv
  obtain ⟨rfl, X, hS, hr, hlocks⟩ := am_in B hv
  refine am_entry (Nat.le_of_ble_eq_true rfl) (fun ls hl => ?_)
  exact wX11_fault X hml ⟨Nat.le_refl _, Nat.le_refl _⟩ hf (fun pc H locs ls hn hd hS => am_ri X hS hr hn hd hlocks) _ _ ls hS hl
set_option maxHeartbeats 4000000 in
set_option maxRecDepth 100000 in
theorem wX11_undo {p : Program} {l : Launch} {e : Env} {R : Room} {s : State} {m : MethodId} {args : Array Value} {below : List Frame} {meth : Method} {c : Code} {Q : State → Prop} {E : Ev} (X : Cx p s m args c cX11_undo RX11 E) (hml : c.maxLocals = 1) (hR : 3 ≤ R.frames ∧ 102 ≤ R.locals) {x0 : Nat} {mm : Mem} {r : Int32} {mm1 : Mem} (hf : fX11_undo (eS E) x0 mm = some (r, mm1)) (hret : ∀ (pc : Nat) (H : Heap) (locs : List Loc) (ls : Array Slot), narrow .int (.int r) = .int r → decode cX11_undo pc = .ok (.ireturn, 1) → wS E s mm1 H locs → W p l e R s m args below meth c H locs 0 0 Q (F0 m pc ls [.int r])) : ∀ (H : Heap) (locs : List Loc) (ls : Array Slot), wS E s mm H locs → lv_has ls 1 [(0, .ref x0)] → W p l e R s m args below meth c H locs 0 0 Q (F0 m 0 ls []) := by
  have hx := X.1
  have hb := X.2.1
  have hR1 := hR.1
  have hR2 := hR.2
  have hRa : 3 ≤ R.frames := by omega
  have hRb : 102 ≤ R.locals := by omega
  unfold fX11_undo at hf
  intro H locs ls hS hl
  refine lv_aload_n hx hb dX11_undo_0 rfl (lv_at hl 0 rfl) ?_
  obtain ⟨a1, h1, hf⟩ := bs hf
  refine am_gr X hS fl_X11_74 rfl h1 dX11_undo_1 ?_
  obtain ⟨v2, h1, hf⟩ := bs hf
  refine am_gi X hS fl_X11_135 rfl h1 dX11_undo_4 ?_
  refine lv_if_ne (tgt := 12) hx hb dX11_undo_7 (by decide) (fun q3 => ?_) (fun q3 => ?_)
  · have hf := ifn hf q3
    refine lv_aload_n hx hb dX11_undo_12 rfl (lv_at hl 0 rfl) ?_
    obtain ⟨a4, h1, hf⟩ := bs hf
    refine am_gr X hS fl_X11_74 rfl h1 dX11_undo_13 ?_
    refine lv_aload_n hx hb dX11_undo_16 rfl (lv_at hl 0 rfl) ?_
    obtain ⟨a5, h1, hf⟩ := bs hf
    refine am_gr X hS fl_X11_67 rfl h1 dX11_undo_17 ?_
    obtain ⟨u0, h0, hf⟩ := bs hf
    obtain ⟨_, hrc⟩ := isO_n h0
    obtain ⟨m6, h1, hf⟩ := bs hf
    refine am_endv hS (am_runV (As := [.ref a5]) X (hml.trans hl.1.symm) hS (cX7_popInto_ok (l := l) (E := E) h1) mv_X11_183 hrc rfl ⟨Nat.le_trans (by decide) hRa, Nat.le_trans (by decide) hRb⟩ ⟨Nat.zero_le _, Nat.zero_le _⟩ rfl rfl (Nat.le_of_ble_eq_true rfl) dX11_undo_20) (fun H locs hS => ?_)
    refine lv_aload_n hx hb dX11_undo_23 rfl (lv_at hl 0 rfl) ?_
    refine lv_iconst (v := 0) hx hb dX11_undo_24 (by decide) ?_
    obtain ⟨m7, h1, hf⟩ := bs hf
    refine am_pi X hS fp_X11_141 rfl h1 dX11_undo_25 (fun H locs hS => ?_)
    refine lv_aload_n hx hb dX11_undo_28 rfl (lv_at hl 0 rfl) ?_
    obtain ⟨a8, h1, hf⟩ := bs hf
    refine am_gr X hS fl_X11_74 rfl h1 dX11_undo_29 ?_
    obtain ⟨v9, h1, hf⟩ := bs hf
    refine am_gi X hS fl_X11_135 rfl h1 dX11_undo_32 ?_
    cases hf
    exact hret _ _ _ _ rfl dX11_undo_35 hS
  · have hf := ifp hf q3
    refine lv_iconst (v := (-1)) hx hb dX11_undo_10 (by decide) ?_
    cases hf
    exact hret _ _ _ _ rfl dX11_undo_11 hS
set_option maxRecDepth 100000 in
theorem cX11_undo_ok {l : Launch} {E : Ev} {x0 : Nat} {mm : Mem} {r : Int32} {mm1 : Mem} (hf : fX11_undo (eS E) x0 mm = some (r, mm1)) : CtI l yX11_undo cX11_undo 1 (some .int) (3) (102) E [.ref x0] mm r mm1 := by
  refine Met.ofW (cc := cX11_undo) (maxL := 1) (ret := (some .int)) (by decide) rfl ?_
  intro p e s m args below meth c s₁ B hml hv
  obtain ⟨rfl, X, hS, hr, hlocks⟩ := am_in B hv
  refine am_entry (Nat.le_of_ble_eq_true rfl) (fun ls hl => ?_)
  exact wX11_undo X hml ⟨Nat.le_refl _, Nat.le_refl _⟩ hf (fun pc H locs ls hn hd hS => am_ri X hS hr hn hd hlocks) _ _ ls hS hl
set_option maxHeartbeats 4000000 in
set_option maxRecDepth 100000 in
theorem wX11_isFellow {p : Program} {l : Launch} {e : Env} {R : Room} {s : State} {m : MethodId} {args : Array Value} {below : List Frame} {meth : Method} {c : Code} {Q : State → Prop} {E : Ev} (X : Cx p s m args c cX11_isFellow RX11 E) (hml : c.maxLocals = 2) (hR : 0 ≤ R.frames ∧ 0 ≤ R.locals) {x0 : Nat} {x1 : Int32} {mm : Mem} {r : Int32} (hf : fX11_isFellow (eS E) x0 x1 mm = some r) (hret : ∀ (pc : Nat) (H : Heap) (locs : List Loc) (ls : Array Slot), narrow .boolean (.int r) = .int r → decode cX11_isFellow pc = .ok (.ireturn, 1) → wS E s mm H locs → W p l e R s m args below meth c H locs 0 0 Q (F0 m pc ls [.int r])) : ∀ (H : Heap) (locs : List Loc) (ls : Array Slot), wS E s mm H locs → lv_has ls 2 [(0, .ref x0), (1, .int x1)] → W p l e R s m args below meth c H locs 0 0 Q (F0 m 0 ls []) := by
  have hx := X.1
  have hb := X.2.1
  have hR1 := hR.1
  have hR2 := hR.2
  have hRa : 0 ≤ R.frames := by omega
  have hRb : 0 ≤ R.locals := by omega
  unfold fX11_isFellow at hf
  have hj20 : ∀ (s0 : Int32) (H : Heap) (locs : List Loc) (ls : Array Slot), fX11_isFellow_j20 (eS E) s0 mm = some r → wS E s mm H locs → lv_has ls 2 [] → W p l e R s m args below meth c H locs 0 0 Q (F0 m 20 ls [.int s0]) := by
    intro s0 H locs ls hf hS hl
    unfold fX11_isFellow_j20 at hf
    obtain ⟨v1, h1, hf⟩ := bs hf
    obtain ⟨rfl, h2⟩ := ckZ_n h1
    cases hf
    exact hret _ _ _ _ h2 dX11_isFellow_20 hS
  have hj19 : ∀ (H : Heap) (locs : List Loc) (ls : Array Slot), fX11_isFellow_j19 (eS E) mm = some r → wS E s mm H locs → lv_has ls 2 [] → W p l e R s m args below meth c H locs 0 0 Q (F0 m 19 ls []) := by
    intro H locs ls hf hS hl
    unfold fX11_isFellow_j19 at hf
    refine lv_iconst (v := 0) hx hb dX11_isFellow_19 (by decide) ?_
    exact hj20 0 H locs ls hf hS hl
  intro H locs ls hS hl
  refine lv_iload_n hx hb dX11_isFellow_0 rfl (lv_at hl 1 rfl) ?_
  refine lv_if_lt (tgt := 19) hx hb dX11_isFellow_1 (by decide) (fun q2 => ?_) (fun q2 => ?_)
  · have hf := ifp hf q2
    exact hj19  H locs ls hf hS (lv_sub hl [] rfl)
  · have hf := ifn hf q2
    refine lv_iload_n hx hb dX11_isFellow_4 rfl (lv_at hl 1 rfl) ?_
    refine lv_aload_n hx hb dX11_isFellow_5 rfl (lv_at hl 0 rfl) ?_
    obtain ⟨a3, h1, hf⟩ := bs hf
    refine am_gr X hS fl_X11_19 rfl h1 dX11_isFellow_6 ?_
    obtain ⟨v4, h1, hf⟩ := bs hf
    refine am_gi X hS fl_X11_144 rfl h1 dX11_isFellow_9 ?_
    refine lv_icmp_ge (tgt := 19) hx hb dX11_isFellow_12 (by decide) (fun q5 => ?_) (fun q5 => ?_)
    · have hf := ifp hf q5
      exact hj19  H locs ls hf hS (lv_sub hl [] rfl)
    · have hf := ifn hf q5
      refine lv_iconst (v := 1) hx hb dX11_isFellow_15 (by decide) ?_
      refine lv_goto (tgt := 20) hx hb dX11_isFellow_16 (by decide) ?_
      exact hj20 1 H locs ls hf hS (lv_sub hl [] rfl)
set_option maxRecDepth 100000 in
theorem cX11_isFellow_ok {l : Launch} {E : Ev} {x0 : Nat} {x1 : Int32} {mm : Mem} {r : Int32} (hf : fX11_isFellow (eS E) x0 x1 mm = some r) : CtI l yX11_isFellow cX11_isFellow 2 (some .boolean) (0) (0) E [.ref x0, .int x1] mm r mm := by
  refine Met.ofW (cc := cX11_isFellow) (maxL := 2) (ret := (some .boolean)) (by decide) rfl ?_
  intro p e s m args below meth c s₁ B hml hv
  obtain ⟨rfl, X, hS, hr, hlocks⟩ := am_in B hv
  refine am_entry (Nat.le_of_ble_eq_true rfl) (fun ls hl => ?_)
  exact wX11_isFellow X hml ⟨Nat.le_refl _, Nat.le_refl _⟩ hf (fun pc H locs ls hn hd hS => am_ri X hS hr hn hd hlocks) _ _ ls hS hl
set_option maxHeartbeats 4000000 in
set_option maxRecDepth 100000 in
theorem wX11_isPart {p : Program} {l : Launch} {e : Env} {R : Room} {s : State} {m : MethodId} {args : Array Value} {below : List Frame} {meth : Method} {c : Code} {Q : State → Prop} {E : Ev} (X : Cx p s m args c cX11_isPart RX11 E) (hml : c.maxLocals = 1) (hR : 0 ≤ R.frames ∧ 0 ≤ R.locals) {x0 : Int32} {mm : Mem} {r : Int32} (hf : fX11_isPart x0 = some r) (hret : ∀ (pc : Nat) (H : Heap) (locs : List Loc) (ls : Array Slot), narrow .boolean (.int r) = .int r → decode cX11_isPart pc = .ok (.ireturn, 1) → wS E s mm H locs → W p l e R s m args below meth c H locs 0 0 Q (F0 m pc ls [.int r])) : ∀ (H : Heap) (locs : List Loc) (ls : Array Slot), wS E s mm H locs → lv_has ls 1 [(0, .int x0)] → W p l e R s m args below meth c H locs 0 0 Q (F0 m 0 ls []) := by
  have hx := X.1
  have hb := X.2.1
  have hR1 := hR.1
  have hR2 := hR.2
  have hRa : 0 ≤ R.frames := by omega
  have hRb : 0 ≤ R.locals := by omega
  unfold fX11_isPart at hf
  have hj15 : ∀ (s0 : Int32) (H : Heap) (locs : List Loc) (ls : Array Slot), fX11_isPart_j15 s0 = some r → wS E s mm H locs → lv_has ls 1 [] → W p l e R s m args below meth c H locs 0 0 Q (F0 m 15 ls [.int s0]) := by
    intro s0 H locs ls hf hS hl
    unfold fX11_isPart_j15 at hf
    obtain ⟨v1, h1, hf⟩ := bs hf
    obtain ⟨rfl, h2⟩ := ckZ_n h1
    cases hf
    exact hret _ _ _ _ h2 dX11_isPart_15 hS
  have hj14 : ∀ (H : Heap) (locs : List Loc) (ls : Array Slot), fX11_isPart_j14 = some r → wS E s mm H locs → lv_has ls 1 [] → W p l e R s m args below meth c H locs 0 0 Q (F0 m 14 ls []) := by
    intro H locs ls hf hS hl
    unfold fX11_isPart_j14 at hf
    refine lv_iconst (v := 0) hx hb dX11_isPart_14 (by decide) ?_
    exact hj15 0 H locs ls hf hS hl
  intro H locs ls hS hl
  refine lv_iload_n hx hb dX11_isPart_0 rfl (lv_at hl 0 rfl) ?_
  refine lv_if_lt (tgt := 14) hx hb dX11_isPart_1 (by decide) (fun q2 => ?_) (fun q2 => ?_)
  · have hf := ifp hf q2
    exact hj14  H locs ls hf hS (lv_sub hl [] rfl)
  · have hf := ifn hf q2
    refine lv_iload_n hx hb dX11_isPart_4 rfl (lv_at hl 0 rfl) ?_
    refine lv_bipush (v := 7) hx hb dX11_isPart_5 (by decide) ?_
    refine lv_icmp_ge (tgt := 14) hx hb dX11_isPart_7 (by decide) (fun q3 => ?_) (fun q3 => ?_)
    · have hf := ifp hf q3
      exact hj14  H locs ls hf hS (lv_sub hl [] rfl)
    · have hf := ifn hf q3
      refine lv_iconst (v := 1) hx hb dX11_isPart_10 (by decide) ?_
      refine lv_goto (tgt := 15) hx hb dX11_isPart_11 (by decide) ?_
      exact hj15 1 H locs ls hf hS (lv_sub hl [] rfl)
set_option maxRecDepth 100000 in
theorem cX11_isPart_ok {l : Launch} {E : Ev} {x0 : Int32} {mm : Mem} {r : Int32} (hf : fX11_isPart x0 = some r) : CtI l yX11_isPart cX11_isPart 1 (some .boolean) (0) (0) E [.int x0] mm r mm := by
  refine Met.ofW (cc := cX11_isPart) (maxL := 1) (ret := (some .boolean)) (by decide) rfl ?_
  intro p e s m args below meth c s₁ B hml hv
  obtain ⟨rfl, X, hS, hr, hlocks⟩ := am_in B hv
  refine am_entry (Nat.le_of_ble_eq_true rfl) (fun ls hl => ?_)
  exact wX11_isPart X hml ⟨Nat.le_refl _, Nat.le_refl _⟩ hf (fun pc H locs ls hn hd hS => am_ri X hS hr hn hd hlocks) _ _ ls hS hl
set_option maxHeartbeats 4000000 in
set_option maxRecDepth 100000 in
theorem wX11_isPlace {p : Program} {l : Launch} {e : Env} {R : Room} {s : State} {m : MethodId} {args : Array Value} {below : List Frame} {meth : Method} {c : Code} {Q : State → Prop} {E : Ev} (X : Cx p s m args c cX11_isPlace RX11 E) (hml : c.maxLocals = 2) (hR : 0 ≤ R.frames ∧ 0 ≤ R.locals) {x0 : Nat} {x1 : Int32} {mm : Mem} {r : Int32} (hf : fX11_isPlace (eS E) x0 x1 mm = some r) (hret : ∀ (pc : Nat) (H : Heap) (locs : List Loc) (ls : Array Slot), narrow .boolean (.int r) = .int r → decode cX11_isPlace pc = .ok (.ireturn, 1) → wS E s mm H locs → W p l e R s m args below meth c H locs 0 0 Q (F0 m pc ls [.int r])) : ∀ (H : Heap) (locs : List Loc) (ls : Array Slot), wS E s mm H locs → lv_has ls 2 [(0, .ref x0), (1, .int x1)] → W p l e R s m args below meth c H locs 0 0 Q (F0 m 0 ls []) := by
  have hx := X.1
  have hb := X.2.1
  have hR1 := hR.1
  have hR2 := hR.2
  have hRa : 0 ≤ R.frames := by omega
  have hRb : 0 ≤ R.locals := by omega
  unfold fX11_isPlace at hf
  have hj20 : ∀ (s0 : Int32) (H : Heap) (locs : List Loc) (ls : Array Slot), fX11_isPlace_j20 (eS E) s0 mm = some r → wS E s mm H locs → lv_has ls 2 [] → W p l e R s m args below meth c H locs 0 0 Q (F0 m 20 ls [.int s0]) := by
    intro s0 H locs ls hf hS hl
    unfold fX11_isPlace_j20 at hf
    obtain ⟨v1, h1, hf⟩ := bs hf
    obtain ⟨rfl, h2⟩ := ckZ_n h1
    cases hf
    exact hret _ _ _ _ h2 dX11_isPlace_20 hS
  have hj19 : ∀ (H : Heap) (locs : List Loc) (ls : Array Slot), fX11_isPlace_j19 (eS E) mm = some r → wS E s mm H locs → lv_has ls 2 [] → W p l e R s m args below meth c H locs 0 0 Q (F0 m 19 ls []) := by
    intro H locs ls hf hS hl
    unfold fX11_isPlace_j19 at hf
    refine lv_iconst (v := 0) hx hb dX11_isPlace_19 (by decide) ?_
    exact hj20 0 H locs ls hf hS hl
  intro H locs ls hS hl
  refine lv_iload_n hx hb dX11_isPlace_0 rfl (lv_at hl 1 rfl) ?_
  refine lv_if_lt (tgt := 19) hx hb dX11_isPlace_1 (by decide) (fun q2 => ?_) (fun q2 => ?_)
  · have hf := ifp hf q2
    exact hj19  H locs ls hf hS (lv_sub hl [] rfl)
  · have hf := ifn hf q2
    refine lv_iload_n hx hb dX11_isPlace_4 rfl (lv_at hl 1 rfl) ?_
    refine lv_aload_n hx hb dX11_isPlace_5 rfl (lv_at hl 0 rfl) ?_
    obtain ⟨a3, h1, hf⟩ := bs hf
    refine am_gr X hS fl_X11_19 rfl h1 dX11_isPlace_6 ?_
    obtain ⟨v4, h1, hf⟩ := bs hf
    refine am_gi X hS fl_X11_171 rfl h1 dX11_isPlace_9 ?_
    refine lv_icmp_ge (tgt := 19) hx hb dX11_isPlace_12 (by decide) (fun q5 => ?_) (fun q5 => ?_)
    · have hf := ifp hf q5
      exact hj19  H locs ls hf hS (lv_sub hl [] rfl)
    · have hf := ifn hf q5
      refine lv_iconst (v := 1) hx hb dX11_isPlace_15 (by decide) ?_
      refine lv_goto (tgt := 20) hx hb dX11_isPlace_16 (by decide) ?_
      exact hj20 1 H locs ls hf hS (lv_sub hl [] rfl)
set_option maxRecDepth 100000 in
theorem cX11_isPlace_ok {l : Launch} {E : Ev} {x0 : Nat} {x1 : Int32} {mm : Mem} {r : Int32} (hf : fX11_isPlace (eS E) x0 x1 mm = some r) : CtI l yX11_isPlace cX11_isPlace 2 (some .boolean) (0) (0) E [.ref x0, .int x1] mm r mm := by
  refine Met.ofW (cc := cX11_isPlace) (maxL := 2) (ret := (some .boolean)) (by decide) rfl ?_
  intro p e s m args below meth c s₁ B hml hv
  obtain ⟨rfl, X, hS, hr, hlocks⟩ := am_in B hv
  refine am_entry (Nat.le_of_ble_eq_true rfl) (fun ls hl => ?_)
  exact wX11_isPlace X hml ⟨Nat.le_refl _, Nat.le_refl _⟩ hf (fun pc H locs ls hn hd hS => am_ri X hS hr hn hd hlocks) _ _ ls hS hl
set_option maxHeartbeats 4000000 in
set_option maxRecDepth 100000 in
theorem wX11_areFellows {p : Program} {l : Launch} {e : Env} {R : Room} {s : State} {m : MethodId} {args : Array Value} {below : List Frame} {meth : Method} {c : Code} {Q : State → Prop} {E : Ev} (X : Cx p s m args c cX11_areFellows RX11 E) (hml : c.maxLocals = 2) (hR : 0 ≤ R.frames ∧ 0 ≤ R.locals) {x0 : Nat} {x1 : Int32} {mm : Mem} {r : Int32} (hf : fX11_areFellows (eS E) x0 x1 mm = some r) (hret : ∀ (pc : Nat) (H : Heap) (locs : List Loc) (ls : Array Slot), narrow .boolean (.int r) = .int r → decode cX11_areFellows pc = .ok (.ireturn, 1) → wS E s mm H locs → W p l e R s m args below meth c H locs 0 0 Q (F0 m pc ls [.int r])) : ∀ (H : Heap) (locs : List Loc) (ls : Array Slot), wS E s mm H locs → lv_has ls 2 [(0, .ref x0), (1, .int x1)] → W p l e R s m args below meth c H locs 0 0 Q (F0 m 0 ls []) := by
  have hx := X.1
  have hb := X.2.1
  have hR1 := hR.1
  have hR2 := hR.2
  have hRa : 0 ≤ R.frames := by omega
  have hRb : 0 ≤ R.locals := by omega
  unfold fX11_areFellows at hf
  have hj22 : ∀ (s0 : Int32) (H : Heap) (locs : List Loc) (ls : Array Slot), fX11_areFellows_j22 (eS E) s0 mm = some r → wS E s mm H locs → lv_has ls 2 [] → W p l e R s m args below meth c H locs 0 0 Q (F0 m 22 ls [.int s0]) := by
    intro s0 H locs ls hf hS hl
    unfold fX11_areFellows_j22 at hf
    obtain ⟨v1, h1, hf⟩ := bs hf
    obtain ⟨rfl, h2⟩ := ckZ_n h1
    cases hf
    exact hret _ _ _ _ h2 dX11_areFellows_22 hS
  have hj21 : ∀ (H : Heap) (locs : List Loc) (ls : Array Slot), fX11_areFellows_j21 (eS E) mm = some r → wS E s mm H locs → lv_has ls 2 [] → W p l e R s m args below meth c H locs 0 0 Q (F0 m 21 ls []) := by
    intro H locs ls hf hS hl
    unfold fX11_areFellows_j21 at hf
    refine lv_iconst (v := 0) hx hb dX11_areFellows_21 (by decide) ?_
    exact hj22 0 H locs ls hf hS hl
  intro H locs ls hS hl
  refine lv_iload_n hx hb dX11_areFellows_0 rfl (lv_at hl 1 rfl) ?_
  refine lv_if_lt (tgt := 21) hx hb dX11_areFellows_1 (by decide) (fun q2 => ?_) (fun q2 => ?_)
  · have hf := ifp hf q2
    exact hj21  H locs ls hf hS (lv_sub hl [] rfl)
  · have hf := ifn hf q2
    refine lv_iload_n hx hb dX11_areFellows_4 rfl (lv_at hl 1 rfl) ?_
    refine lv_iconst (v := 1) hx hb dX11_areFellows_5 (by decide) ?_
    refine lv_aload_n hx hb dX11_areFellows_6 rfl (lv_at hl 0 rfl) ?_
    obtain ⟨a3, h1, hf⟩ := bs hf
    refine am_gr X hS fl_X11_19 rfl h1 dX11_areFellows_7 ?_
    obtain ⟨v4, h1, hf⟩ := bs hf
    refine am_gi X hS fl_X11_144 rfl h1 dX11_areFellows_10 ?_
    refine lv_ishl hx hb dX11_areFellows_13 ?_
    refine lv_icmp_ge (tgt := 21) hx hb dX11_areFellows_14 (by decide) (fun q5 => ?_) (fun q5 => ?_)
    · have hf := ifp hf q5
      exact hj21  H locs ls hf hS (lv_sub hl [] rfl)
    · have hf := ifn hf q5
      refine lv_iconst (v := 1) hx hb dX11_areFellows_17 (by decide) ?_
      refine lv_goto (tgt := 22) hx hb dX11_areFellows_18 (by decide) ?_
      exact hj22 1 H locs ls hf hS (lv_sub hl [] rfl)
set_option maxRecDepth 100000 in
theorem cX11_areFellows_ok {l : Launch} {E : Ev} {x0 : Nat} {x1 : Int32} {mm : Mem} {r : Int32} (hf : fX11_areFellows (eS E) x0 x1 mm = some r) : CtI l yX11_areFellows cX11_areFellows 2 (some .boolean) (0) (0) E [.ref x0, .int x1] mm r mm := by
  refine Met.ofW (cc := cX11_areFellows) (maxL := 2) (ret := (some .boolean)) (by decide) rfl ?_
  intro p e s m args below meth c s₁ B hml hv
  obtain ⟨rfl, X, hS, hr, hlocks⟩ := am_in B hv
  refine am_entry (Nat.le_of_ble_eq_true rfl) (fun ls hl => ?_)
  exact wX11_areFellows X hml ⟨Nat.le_refl _, Nat.le_refl _⟩ hf (fun pc H locs ls hn hd hS => am_ri X hS hr hn hd hlocks) _ _ ls hS hl
set_option maxHeartbeats 4000000 in
set_option maxRecDepth 100000 in
theorem wX11_isQuota {p : Program} {l : Launch} {e : Env} {R : Room} {s : State} {m : MethodId} {args : Array Value} {below : List Frame} {meth : Method} {c : Code} {Q : State → Prop} {E : Ev} (X : Cx p s m args c cX11_isQuota RX11 E) (hml : c.maxLocals = 1) (hR : 0 ≤ R.frames ∧ 0 ≤ R.locals) {x0 : Int32} {mm : Mem} {r : Int32} (hf : fX11_isQuota x0 = some r) (hret : ∀ (pc : Nat) (H : Heap) (locs : List Loc) (ls : Array Slot), narrow .boolean (.int r) = .int r → decode cX11_isQuota pc = .ok (.ireturn, 1) → wS E s mm H locs → W p l e R s m args below meth c H locs 0 0 Q (F0 m pc ls [.int r])) : ∀ (H : Heap) (locs : List Loc) (ls : Array Slot), wS E s mm H locs → lv_has ls 1 [(0, .int x0)] → W p l e R s m args below meth c H locs 0 0 Q (F0 m 0 ls []) := by
  have hx := X.1
  have hb := X.2.1
  have hR1 := hR.1
  have hR2 := hR.2
  have hRa : 0 ≤ R.frames := by omega
  have hRb : 0 ≤ R.locals := by omega
  unfold fX11_isQuota at hf
  have hj17 : ∀ (s0 : Int32) (H : Heap) (locs : List Loc) (ls : Array Slot), fX11_isQuota_j17 s0 = some r → wS E s mm H locs → lv_has ls 1 [] → W p l e R s m args below meth c H locs 0 0 Q (F0 m 17 ls [.int s0]) := by
    intro s0 H locs ls hf hS hl
    unfold fX11_isQuota_j17 at hf
    obtain ⟨v1, h1, hf⟩ := bs hf
    obtain ⟨rfl, h2⟩ := ckZ_n h1
    cases hf
    exact hret _ _ _ _ h2 dX11_isQuota_17 hS
  have hj16 : ∀ (H : Heap) (locs : List Loc) (ls : Array Slot), fX11_isQuota_j16 = some r → wS E s mm H locs → lv_has ls 1 [] → W p l e R s m args below meth c H locs 0 0 Q (F0 m 16 ls []) := by
    intro H locs ls hf hS hl
    unfold fX11_isQuota_j16 at hf
    refine lv_iconst (v := 0) hx hb dX11_isQuota_16 (by decide) ?_
    exact hj17 0 H locs ls hf hS hl
  intro H locs ls hS hl
  refine lv_iload_n hx hb dX11_isQuota_0 rfl (lv_at hl 0 rfl) ?_
  refine lv_iconst (v := 1) hx hb dX11_isQuota_1 (by decide) ?_
  refine lv_icmp_lt (tgt := 16) hx hb dX11_isQuota_2 (by decide) (fun q2 => ?_) (fun q2 => ?_)
  · have hf := ifp hf q2
    exact hj16  H locs ls hf hS (lv_sub hl [] rfl)
  · have hf := ifn hf q2
    refine lv_iload_n hx hb dX11_isQuota_5 rfl (lv_at hl 0 rfl) ?_
    refine lv_sipush (v := 2800) hx hb dX11_isQuota_6 (by decide) ?_
    refine lv_icmp_gt (tgt := 16) hx hb dX11_isQuota_9 (by decide) (fun q3 => ?_) (fun q3 => ?_)
    · have hf := ifp hf q3
      exact hj16  H locs ls hf hS (lv_sub hl [] rfl)
    · have hf := ifn hf q3
      refine lv_iconst (v := 1) hx hb dX11_isQuota_12 (by decide) ?_
      refine lv_goto (tgt := 17) hx hb dX11_isQuota_13 (by decide) ?_
      exact hj17 1 H locs ls hf hS (lv_sub hl [] rfl)
set_option maxRecDepth 100000 in
theorem cX11_isQuota_ok {l : Launch} {E : Ev} {x0 : Int32} {mm : Mem} {r : Int32} (hf : fX11_isQuota x0 = some r) : CtI l yX11_isQuota cX11_isQuota 1 (some .boolean) (0) (0) E [.int x0] mm r mm := by
  refine Met.ofW (cc := cX11_isQuota) (maxL := 1) (ret := (some .boolean)) (by decide) rfl ?_
  intro p e s m args below meth c s₁ B hml hv
  obtain ⟨rfl, X, hS, hr, hlocks⟩ := am_in B hv
  refine am_entry (Nat.le_of_ble_eq_true rfl) (fun ls hl => ?_)
  exact wX11_isQuota X hml ⟨Nat.le_refl _, Nat.le_refl _⟩ hf (fun pc H locs ls hn hd hS => am_ri X hS hr hn hd hlocks) _ _ ls hS hl
set_option maxHeartbeats 4000000 in
set_option maxRecDepth 100000 in
theorem wX11_isSwing {p : Program} {l : Launch} {e : Env} {R : Room} {s : State} {m : MethodId} {args : Array Value} {below : List Frame} {meth : Method} {c : Code} {Q : State → Prop} {E : Ev} (X : Cx p s m args c cX11_isSwing RX11 E) (hml : c.maxLocals = 7) (hR : 0 ≤ R.frames ∧ 0 ≤ R.locals) {x0 : Nat} {x1 : Int32} {x2 : Int32} {x3 : Int32} {x4 : Int32} {mm : Mem} {r : Int32} (hf : fX11_isSwing (eS E) x0 x1 x2 x3 x4 mm = some r) (hret : ∀ (pc : Nat) (H : Heap) (locs : List Loc) (ls : Array Slot), narrow .boolean (.int r) = .int r → decode cX11_isSwing pc = .ok (.ireturn, 1) → wS E s mm H locs → W p l e R s m args below meth c H locs 0 0 Q (F0 m pc ls [.int r])) : ∀ (H : Heap) (locs : List Loc) (ls : Array Slot), wS E s mm H locs → lv_has ls 7 [(0, .ref x0), (1, .int x1), (2, .int x2), (3, .int x3), (4, .int x4)] → W p l e R s m args below meth c H locs 0 0 Q (F0 m 0 ls []) := by
  have hx := X.1
  have hb := X.2.1
  have hR1 := hR.1
  have hR2 := hR.2
  have hRa : 0 ≤ R.frames := by omega
  have hRb : 0 ≤ R.locals := by omega
  unfold fX11_isSwing at hf
  have hj91 : ∀ (s0 : Int32) (H : Heap) (locs : List Loc) (ls : Array Slot), fX11_isSwing_j91 (eS E) s0 mm = some r → wS E s mm H locs → lv_has ls 7 [] → W p l e R s m args below meth c H locs 0 0 Q (F0 m 91 ls [.int s0]) := by
    intro s0 H locs ls hf hS hl
    unfold fX11_isSwing_j91 at hf
    obtain ⟨v1, h1, hf⟩ := bs hf
    obtain ⟨rfl, h2⟩ := ckZ_n h1
    cases hf
    exact hret _ _ _ _ h2 dX11_isSwing_91 hS
  have hj90 : ∀ (H : Heap) (locs : List Loc) (ls : Array Slot), fX11_isSwing_j90 (eS E) mm = some r → wS E s mm H locs → lv_has ls 7 [] → W p l e R s m args below meth c H locs 0 0 Q (F0 m 90 ls []) := by
    intro H locs ls hf hS hl
    unfold fX11_isSwing_j90 at hf
    refine lv_iconst (v := 0) hx hb dX11_isSwing_90 (by decide) ?_
    exact hj91 0 H locs ls hf hS hl
  have hj59 : ∀ (x0 : Nat) (x1 : Int32) (x2 : Int32) (x3 : Int32) (x5 : Int32) (H : Heap) (locs : List Loc) (ls : Array Slot), fX11_isSwing_j59 (eS E) x0 x1 x2 x3 x5 mm = some r → wS E s mm H locs → lv_has ls 7 [(0, .ref x0), (1, .int x1), (2, .int x2), (3, .int x3), (5, .int x5)] → W p l e R s m args below meth c H locs 0 0 Q (F0 m 59 ls []) := by
    intro x0 x1 x2 x3 x5 H locs ls hf hS hl
    unfold fX11_isSwing_j59 at hf
    refine lv_iload hx hb dX11_isSwing_59 (lv_at hl 4 rfl) ?_
    refine lv_iload_n hx hb dX11_isSwing_61 rfl (lv_at hl 3 rfl) ?_
    refine lv_icmp_ge (tgt := 90) hx hb dX11_isSwing_62 (by decide) (fun q2 => ?_) (fun q2 => ?_)
    · have hf := ifp hf q2
      exact hj90  H locs ls hf hS (lv_sub hl [] rfl)
    · have hf := ifn hf q2
      refine lv_iload hx hb dX11_isSwing_65 (lv_at hl 4 rfl) ?_
      refine lv_aload_n hx hb dX11_isSwing_67 rfl (lv_at hl 0 rfl) ?_
      obtain ⟨a3, h1, hf⟩ := bs hf
      refine am_gr X hS fl_X11_67 rfl h1 dX11_isSwing_68 ?_
      obtain ⟨a4, h1, hf⟩ := bs hf
      refine am_gr X hS fl_X11_204 rfl h1 dX11_isSwing_71 ?_
      refine lv_iload_n hx hb dX11_isSwing_74 rfl (lv_at hl 1 rfl) ?_
      refine lv_bipush (v := 7) hx hb dX11_isSwing_75 (by decide) ?_
      refine lv_imul hx hb dX11_isSwing_77 ?_
      refine lv_iload_n hx hb dX11_isSwing_78 rfl (lv_at hl 2 rfl) ?_
      refine lv_iadd hx hb dX11_isSwing_79 ?_
      obtain ⟨v5, h1, hf⟩ := bs hf
      refine am_ald X hS h1 dX11_isSwing_80 ?_
      refine lv_iadd hx hb dX11_isSwing_81 ?_
      refine lv_iload_n hx hb dX11_isSwing_82 rfl (lv_at hl 3 rfl) ?_
      refine lv_icmp_lt (tgt := 90) hx hb dX11_isSwing_83 (by decide) (fun q6 => ?_) (fun q6 => ?_)
      · have hf := ifp hf q6
        exact hj90  H locs ls hf hS (lv_sub hl [] rfl)
      · have hf := ifn hf q6
        refine lv_iconst (v := 1) hx hb dX11_isSwing_86 (by decide) ?_
        refine lv_goto (tgt := 91) hx hb dX11_isSwing_87 (by decide) ?_
        exact hj91 1 H locs ls hf hS (lv_sub hl [] rfl)
  intro H locs ls hS hl
  refine lv_iload hx hb dX11_isSwing_0 (lv_at hl 4 rfl) ?_
  refine lv_iload_n hx hb dX11_isSwing_2 rfl (lv_at hl 2 rfl) ?_
  refine lv_ishr hx hb dX11_isSwing_3 ?_
  refine lv_iconst (v := 1) hx hb dX11_isSwing_4 (by decide) ?_
  refine lv_iand hx hb dX11_isSwing_5 ?_
  refine lv_iconst (v := 1) hx hb dX11_isSwing_6 (by decide) ?_
  refine lv_icmp_ne (tgt := 12) hx hb dX11_isSwing_7 (by decide) (fun q7 => ?_) (fun q7 => ?_)
  · have hf := ifn hf q7
    refine lv_iconst (v := 0) hx hb dX11_isSwing_12 (by decide) ?_
    refine lv_topi (fun x5_8 e1 => ?_)
    have hf := lt1_n e1 hf
    refine lv_istore (lv' := [(5, .int x5_8), (0, .ref x0), (1, .int x1), (2, .int x2), (3, .int x3), (4, .int x4)]) hx hb dX11_isSwing_13 hl (by decide) rfl (fun ls hl => ?_)
    refine lv_iconst (v := 0) hx hb dX11_isSwing_15 (by decide) ?_
    refine lv_topi (fun x6_9 e1 => ?_)
    have hf := lt1_n e1 hf
    refine lv_istore (lv' := [(6, .int x6_9), (5, .int x5_8), (0, .ref x0), (1, .int x1), (2, .int x2), (3, .int x3), (4, .int x4)]) hx hb dX11_isSwing_16 hl (by decide) rfl (fun ls hl => ?_)
    obtain ⟨ex18, hl18, hk18⟩ := bs hf
    refine loop_W (P := fun st => ∀ (H : Heap) (locs : List Loc) (ls : Array Slot), wS E s mm H locs → lv_has ls 7 [(0, .ref x0), (1, .int x1), (2, .int x2), (3, .int x3), (4, .int x4), (5, .int st.1), (6, .int st.2)] → W p l e R s m args below meth c H locs 0 0 Q (F0 m 18 ls [])) (ex := ex18) ?_ FU _ hl18 H locs ls hS (lv_sub hl [2, 3, 4, 5, 6, 1, 0] rfl)
    intro st y18 hf hyL18 hyR18 H locs ls hS hl
    obtain ⟨x5, x6⟩ := st
    have hf : fX11_isSwing_b18 (eS E) x0 x1 x2 x3 x4 x5 x6 mm = some y18 := hf
    have hS : wS E s mm H locs := hS
    have hl : lv_has ls 7 [(0, .ref x0), (1, .int x1), (2, .int x2), (3, .int x3), (4, .int x4), (5, .int x5), (6, .int x6)] := hl
    unfold fX11_isSwing_b18 at hf
    refine lv_iload hx hb dX11_isSwing_18 (lv_at hl 6 rfl) ?_
    refine lv_bipush (v := 7) hx hb dX11_isSwing_20 (by decide) ?_
    refine lv_icmp_ge (tgt := 59) hx hb dX11_isSwing_22 (by decide) (fun q10 => ?_) (fun q10 => ?_)
    · have hf := ifp hf q10
      obtain rfl : x5 = ex18 := hyR18 _ (Option.some.inj hf).symm
      exact hj59 x0 x1 x2 x3 x5 H locs ls hk18 hS (lv_sub hl [0, 1, 2, 3, 5] rfl)
    · have hf := ifn hf q10
      refine lv_iload hx hb dX11_isSwing_25 (lv_at hl 5 rfl) ?_
      refine lv_iload hx hb dX11_isSwing_27 (lv_at hl 4 rfl) ?_
      refine lv_iload hx hb dX11_isSwing_29 (lv_at hl 6 rfl) ?_
      refine lv_ishr hx hb dX11_isSwing_31 ?_
      refine lv_iconst (v := 1) hx hb dX11_isSwing_32 (by decide) ?_
      refine lv_iand hx hb dX11_isSwing_33 ?_
      refine lv_aload_n hx hb dX11_isSwing_34 rfl (lv_at hl 0 rfl) ?_
      obtain ⟨a11, h1, hf⟩ := bs hf
      refine am_gr X hS fl_X11_67 rfl h1 dX11_isSwing_35 ?_
      obtain ⟨a12, h1, hf⟩ := bs hf
      refine am_gr X hS fl_X11_204 rfl h1 dX11_isSwing_38 ?_
      refine lv_iload_n hx hb dX11_isSwing_41 rfl (lv_at hl 1 rfl) ?_
      refine lv_bipush (v := 7) hx hb dX11_isSwing_42 (by decide) ?_
      refine lv_imul hx hb dX11_isSwing_44 ?_
      refine lv_iload hx hb dX11_isSwing_45 (lv_at hl 6 rfl) ?_
      refine lv_iadd hx hb dX11_isSwing_47 ?_
      obtain ⟨v13, h1, hf⟩ := bs hf
      refine am_ald X hS h1 dX11_isSwing_48 ?_
      refine lv_imul hx hb dX11_isSwing_49 ?_
      refine lv_iadd hx hb dX11_isSwing_50 ?_
      refine lv_topi (fun x5_14 e1 => ?_)
      have hf := lt1_n e1 hf
      refine lv_istore (lv' := [(5, .int x5_14), (0, .ref x0), (1, .int x1), (2, .int x2), (3, .int x3), (4, .int x4), (6, .int x6)]) hx hb dX11_isSwing_51 hl (by decide) rfl (fun ls hl => ?_)
      obtain ⟨x6_15, e1⟩ : ∃ z : Int32, z = x6 + 1 := ⟨_, rfl⟩
      have hf := lt1_n e1 hf
      refine lv_iinc (v := x6_15) (lv' := [(6, .int x6_15), (5, .int x5_14), (0, .ref x0), (1, .int x1), (2, .int x2), (3, .int x3), (4, .int x4)]) hx hb dX11_isSwing_53 hl (k := 6) rfl (by rw [e1]; rfl) (by decide) rfl (fun ls hl => ?_)
      refine lv_goto (tgt := 18) hx hb dX11_isSwing_56 (by decide) ?_
      exact hyL18 _ (Option.some.inj hf).symm H locs ls hS (lv_sub hl [2, 3, 4, 5, 6, 1, 0] rfl)
  · have hf := ifp hf q7
    refine lv_iconst (v := 0) hx hb dX11_isSwing_10 (by decide) ?_
    cases hf
    exact hret _ _ _ _ rfl dX11_isSwing_11 hS
set_option maxRecDepth 100000 in
theorem cX11_isSwing_ok {l : Launch} {E : Ev} {x0 : Nat} {x1 : Int32} {x2 : Int32} {x3 : Int32} {x4 : Int32} {mm : Mem} {r : Int32} (hf : fX11_isSwing (eS E) x0 x1 x2 x3 x4 mm = some r) : CtI l yX11_isSwing cX11_isSwing 7 (some .boolean) (0) (0) E [.ref x0, .int x1, .int x2, .int x3, .int x4] mm r mm := by
  refine Met.ofW (cc := cX11_isSwing) (maxL := 7) (ret := (some .boolean)) (by decide) rfl ?_
  intro p e s m args below meth c s₁ B hml hv
  obtain ⟨rfl, X, hS, hr, hlocks⟩ := am_in B hv
  refine am_entry (Nat.le_of_ble_eq_true rfl) (fun ls hl => ?_)
  exact wX11_isSwing X hml ⟨Nat.le_refl _, Nat.le_refl _⟩ hf (fun pc H locs ls hn hd hS => am_ri X hS hr hn hd hlocks) _ _ ls hS hl
set_option maxHeartbeats 4000000 in
set_option maxRecDepth 100000 in
theorem wX11_inLeastTerms {p : Program} {l : Launch} {e : Env} {R : Room} {s : State} {m : MethodId} {args : Array Value} {below : List Frame} {meth : Method} {c : Code} {Q : State → Prop} {E : Ev} (X : Cx p s m args c cX11_inLeastTerms RX11 E) (hml : c.maxLocals = 12) (hR : 1 ≤ R.frames ∧ 23 ≤ R.locals) {x0 : Int64} {x2 : Int64} {x4 : Int32} {mm : Mem} {r : Int64} (hf : fX11_inLeastTerms x0 x2 x4 = some r) (hret : ∀ (pc : Nat) (H : Heap) (locs : List Loc) (ls : Array Slot), decode cX11_inLeastTerms pc = .ok (.lreturn, 1) → wS E s mm H locs → W p l e R s m args below meth c H locs 0 0 Q (F0 m pc ls [.long r])) : ∀ (H : Heap) (locs : List Loc) (ls : Array Slot), wS E s mm H locs → lv_has ls 12 [(0, .long x0), (2, .long x2), (4, .int x4)] → W p l e R s m args below meth c H locs 0 0 Q (F0 m 0 ls []) := by
  have hx := X.1
  have hb := X.2.1
  have hR1 := hR.1
  have hR2 := hR.2
  have hRa : 1 ≤ R.frames := by omega
  have hRb : 23 ≤ R.locals := by omega
  unfold fX11_inLeastTerms at hf
  have hj68 : ∀ (s0 : Int64) (H : Heap) (locs : List Loc) (ls : Array Slot), fX11_inLeastTerms_j68 s0 = some r → wS E s mm H locs → lv_has ls 12 [] → W p l e R s m args below meth c H locs 0 0 Q (F0 m 68 ls [.long s0]) := by
    intro s0 H locs ls hf hS hl
    unfold fX11_inLeastTerms_j68 at hf
    cases hf
    exact hret _ _ _ _ dX11_inLeastTerms_68 hS
  have hj44 : ∀ (x0 : Int64) (x2 : Int64) (x4 : Int32) (x5 : Int64) (H : Heap) (locs : List Loc) (ls : Array Slot), fX11_inLeastTerms_j44 x0 x2 x4 x5 = some r → wS E s mm H locs → lv_has ls 12 [(0, .long x0), (2, .long x2), (4, .int x4), (5, .long x5)] → W p l e R s m args below meth c H locs 0 0 Q (F0 m 44 ls []) := by
    intro x0 x2 x4 x5 H locs ls hf hS hl
    unfold fX11_inLeastTerms_j44 at hf
    refine lv_lconst (v := 1) hx hb dX11_inLeastTerms_44 (by decide) ?_
    refine lv_lload hx hb dX11_inLeastTerms_45 (lv_at hl 3 rfl) ?_
    refine va_mmax_long hx hb (hml.trans hl.1.symm) X.2.2.2.1 (X.2.2.1 _ (inBi 1192 (by decide +kernel))) (X.2.2.1 _ (inBi 1193 (by decide +kernel))) (X.2.2.1 _ (inBi 116 (by decide +kernel))) (X.2.2.1 _ (inBi 1194 (by decide +kernel))) (Nat.le_trans (by decide) hRa) (Nat.le_trans (Nat.le_of_ble_eq_true rfl) hRb) (Nat.zero_le _) (Nat.zero_le _) dX11_inLeastTerms_47 ?_
    refine lv_topl (fun x9_1 e1 => ?_)
    have hf := lt1_n e1 hf
    refine lv_lstore (lv' := [(9, .long x9_1), (0, .long x0), (2, .long x2), (4, .int x4), (5, .long x5)]) hx hb dX11_inLeastTerms_50 hl (by decide) rfl (fun ls hl => ?_)
    refine lv_iload hx hb dX11_inLeastTerms_52 (lv_at hl 3 rfl) ?_
    refine lv_if_ne (tgt := 64) hx hb dX11_inLeastTerms_54 (by decide) (fun q2 => ?_) (fun q2 => ?_)
    · have hf := ifn hf q2
      refine lv_lload_n hx hb dX11_inLeastTerms_64 rfl (lv_at hl 2 rfl) ?_
      refine lv_lload hx hb dX11_inLeastTerms_65 (lv_at hl 0 rfl) ?_
      obtain ⟨v3, h1, hf⟩ := bs hf
      obtain ⟨h1, h2⟩ := dvL_n h1
      refine lv_ldiv hx hb dX11_inLeastTerms_67 h1 ?_
      rw [h2]
      exact hj68 v3 H locs ls hf hS (lv_sub hl [] rfl)
    · have hf := ifp hf q2
      refine lv_lload_n hx hb dX11_inLeastTerms_57 rfl (lv_at hl 1 rfl) ?_
      refine lv_lload hx hb dX11_inLeastTerms_58 (lv_at hl 0 rfl) ?_
      obtain ⟨v4, h1, hf⟩ := bs hf
      obtain ⟨h1, h2⟩ := dvL_n h1
      refine lv_ldiv hx hb dX11_inLeastTerms_60 h1 ?_
      rw [h2]
      refine lv_goto (tgt := 68) hx hb dX11_inLeastTerms_61 (by decide) ?_
      exact hj68 v4 H locs ls hf hS (lv_sub hl [] rfl)
  intro H locs ls hS hl
  refine lv_lload_n hx hb dX11_inLeastTerms_0 rfl (lv_at hl 0 rfl) ?_
  refine lv_topl (fun x5_5 e1 => ?_)
  have hf := lt1_n e1 hf
  refine lv_lstore (lv' := [(5, .long x5_5), (0, .long x0), (2, .long x2), (4, .int x4)]) hx hb dX11_inLeastTerms_1 hl (by decide) rfl (fun ls hl => ?_)
  refine lv_lload_n hx hb dX11_inLeastTerms_3 rfl (lv_at hl 2 rfl) ?_
  refine lv_topl (fun x7_6 e1 => ?_)
  have hf := lt1_n e1 hf
  refine lv_lstore (lv' := [(7, .long x7_6), (5, .long x5_5), (0, .long x0), (2, .long x2), (4, .int x4)]) hx hb dX11_inLeastTerms_4 hl (by decide) rfl (fun ls hl => ?_)
  refine lv_iconst (v := 0) hx hb dX11_inLeastTerms_6 (by decide) ?_
  refine lv_topi (fun x9_7 e1 => ?_)
  have hf := lt1_n e1 hf
  refine lv_istore (lv' := [(9, .int x9_7), (7, .long x7_6), (5, .long x5_5), (0, .long x0), (2, .long x2), (4, .int x4)]) hx hb dX11_inLeastTerms_7 hl (by decide) rfl (fun ls hl => ?_)
  obtain ⟨ex9, hl9, hk9⟩ := bs hf
  refine loop_W (P := fun st => ∀ (H : Heap) (locs : List Loc) (ls : Array Slot), wS E s mm H locs → lv_has ls 12 [(0, .long x0), (2, .long x2), (4, .int x4), (5, .long st.1), (7, .long st.2.1), (9, .int st.2.2)] → W p l e R s m args below meth c H locs 0 0 Q (F0 m 9 ls [])) (ex := ex9) ?_ FU _ hl9 H locs ls hS (lv_sub hl [3, 4, 5, 2, 1, 0] rfl)
  intro st y9 hf hyL9 hyR9 H locs ls hS hl
  obtain ⟨x5, x7, x9⟩ := st
  have hf : fX11_inLeastTerms_b9 x0 x2 x4 x5 x7 x9 = some y9 := hf
  have hS : wS E s mm H locs := hS
  have hl : lv_has ls 12 [(0, .long x0), (2, .long x2), (4, .int x4), (5, .long x5), (7, .long x7), (9, .int x9)] := hl
  unfold fX11_inLeastTerms_b9 at hf
  refine lv_iload hx hb dX11_inLeastTerms_9 (lv_at hl 5 rfl) ?_
  refine lv_bipush (v := 100) hx hb dX11_inLeastTerms_11 (by decide) ?_
  refine lv_icmp_ge (tgt := 44) hx hb dX11_inLeastTerms_13 (by decide) (fun q8 => ?_) (fun q8 => ?_)
  · have hf := ifp hf q8
    obtain rfl : x5 = ex9 := hyR9 _ (Option.some.inj hf).symm
    exact hj44 x0 x2 x4 x5 H locs ls hk9 hS (lv_sub hl [0, 1, 2, 3] rfl)
  · have hf := ifn hf q8
    refine lv_lload hx hb dX11_inLeastTerms_16 (lv_at hl 4 rfl) ?_
    refine lv_lconst (v := 0) hx hb dX11_inLeastTerms_18 (by decide) ?_
    refine W.lcmp hx hb dX11_inLeastTerms_19 ?_
    refine lv_if_eq (tgt := 44) hx hb dX11_inLeastTerms_20 (by decide) (fun q9 => ?_) (fun q9 => ?_)
    · have hf := ifp hf q9
      obtain rfl : x5 = ex9 := hyR9 _ (Option.some.inj hf).symm
      exact hj44 x0 x2 x4 x5 H locs ls hk9 hS (lv_sub hl [0, 1, 2, 3] rfl)
    · have hf := ifn hf q9
      refine lv_lload hx hb dX11_inLeastTerms_23 (lv_at hl 3 rfl) ?_
      refine lv_lload hx hb dX11_inLeastTerms_25 (lv_at hl 4 rfl) ?_
      obtain ⟨v10, h1, hf⟩ := bs hf
      obtain ⟨h1, h2⟩ := rmL_n h1
      refine lv_lrem hx hb dX11_inLeastTerms_27 h1 ?_
      rw [h2]
      refine lv_topl (fun x10_11 e1 => ?_)
      have hf := lt1_n e1 hf
      refine lv_lstore (lv' := [(10, .long x10_11), (0, .long x0), (2, .long x2), (4, .int x4), (5, .long x5), (7, .long x7), (9, .int x9)]) hx hb dX11_inLeastTerms_28 hl (by decide) rfl (fun ls hl => ?_)
      refine lv_lload hx hb dX11_inLeastTerms_30 (lv_at hl 5 rfl) ?_
      refine lv_topl (fun x5_12 e1 => ?_)
      have hf := lt1_n e1 hf
      refine lv_lstore (lv' := [(5, .long x5_12), (10, .long x10_11), (0, .long x0), (2, .long x2), (4, .int x4), (7, .long x7), (9, .int x9)]) hx hb dX11_inLeastTerms_32 hl (by decide) rfl (fun ls hl => ?_)
      refine lv_lload hx hb dX11_inLeastTerms_34 (lv_at hl 1 rfl) ?_
      refine lv_topl (fun x7_13 e1 => ?_)
      have hf := lt1_n e1 hf
      refine lv_lstore (lv' := [(7, .long x7_13), (5, .long x5_12), (10, .long x10_11), (0, .long x0), (2, .long x2), (4, .int x4), (9, .int x9)]) hx hb dX11_inLeastTerms_36 hl (by decide) rfl (fun ls hl => ?_)
      obtain ⟨x9_14, e1⟩ : ∃ z : Int32, z = x9 + 1 := ⟨_, rfl⟩
      have hf := lt1_n e1 hf
      refine lv_iinc (v := x9_14) (lv' := [(9, .int x9_14), (7, .long x7_13), (5, .long x5_12), (10, .long x10_11), (0, .long x0), (2, .long x2), (4, .int x4)]) hx hb dX11_inLeastTerms_38 hl (k := 6) rfl (by rw [e1]; rfl) (by decide) rfl (fun ls hl => ?_)
      refine lv_goto (tgt := 9) hx hb dX11_inLeastTerms_41 (by decide) ?_
      exact hyL9 _ (Option.some.inj hf).symm H locs ls hS (lv_sub hl [4, 5, 6, 2, 1, 0] rfl)
set_option maxRecDepth 100000 in
theorem cX11_inLeastTerms_ok {l : Launch} {E : Ev} {x0 : Int64} {x2 : Int64} {x4 : Int32} {mm : Mem} {r : Int64} (hf : fX11_inLeastTerms x0 x2 x4 = some r) : CtL l yX11_inLeastTerms cX11_inLeastTerms 12 (some .long) (1) (23) E [.long x0, .long x2, .int x4] mm r mm := by
  refine Met.ofW (cc := cX11_inLeastTerms) (maxL := 12) (ret := (some .long)) (by decide) rfl ?_
  intro p e s m args below meth c s₁ B hml hv
  obtain ⟨rfl, X, hS, hr, hlocks⟩ := am_in B hv
  refine am_entry (Nat.le_of_ble_eq_true rfl) (fun ls hl => ?_)
  exact wX11_inLeastTerms X hml ⟨Nat.le_refl _, Nat.le_refl _⟩ hf (fun pc H locs ls hd hS => am_rl X hS hr hd hlocks) _ _ ls hS hl
set_option maxHeartbeats 4000000 in
set_option maxRecDepth 100000 in
theorem wX11_gain {p : Program} {l : Launch} {e : Env} {R : Room} {s : State} {m : MethodId} {args : Array Value} {below : List Frame} {meth : Method} {c : Code} {Q : State → Prop} {E : Ev} (X : Cx p s m args c cX11_gain RX11 E) (hml : c.maxLocals = 4) (hR : 0 ≤ R.frames ∧ 0 ≤ R.locals) {x0 : Int32} {x1 : Int32} {x2 : Int32} {x3 : Int32} {mm : Mem} {r : Int32} (hf : fX11_gain x0 x1 x2 x3 = some r) (hret : ∀ (pc : Nat) (H : Heap) (locs : List Loc) (ls : Array Slot), narrow .int (.int r) = .int r → decode cX11_gain pc = .ok (.ireturn, 1) → wS E s mm H locs → W p l e R s m args below meth c H locs 0 0 Q (F0 m pc ls [.int r])) : ∀ (H : Heap) (locs : List Loc) (ls : Array Slot), wS E s mm H locs → lv_has ls 4 [(0, .int x0), (1, .int x1), (2, .int x2), (3, .int x3)] → W p l e R s m args below meth c H locs 0 0 Q (F0 m 0 ls []) := by
  have hx := X.1
  have hb := X.2.1
  have hR1 := hR.1
  have hR2 := hR.2
  have hRa : 0 ≤ R.frames := by omega
  have hRb : 0 ≤ R.locals := by omega
  unfold fX11_gain at hf
  have hj18 : ∀ (s0 : Int32) (H : Heap) (locs : List Loc) (ls : Array Slot), fX11_gain_j18 s0 = some r → wS E s mm H locs → lv_has ls 4 [] → W p l e R s m args below meth c H locs 0 0 Q (F0 m 18 ls [.int s0]) := by
    intro s0 H locs ls hf hS hl
    unfold fX11_gain_j18 at hf
    cases hf
    exact hret _ _ _ _ rfl dX11_gain_18 hS
  intro H locs ls hS hl
  refine lv_iload_n hx hb dX11_gain_0 rfl (lv_at hl 0 rfl) ?_
  refine lv_iload_n hx hb dX11_gain_1 rfl (lv_at hl 1 rfl) ?_
  refine lv_icmp_ne (tgt := 9) hx hb dX11_gain_2 (by decide) (fun q1 => ?_) (fun q1 => ?_)
  · have hf := ifn hf q1
    refine lv_iload_n hx hb dX11_gain_9 rfl (lv_at hl 0 rfl) ?_
    refine lv_if_ne (tgt := 17) hx hb dX11_gain_10 (by decide) (fun q2 => ?_) (fun q2 => ?_)
    · have hf := ifn hf q2
      refine lv_iload_n hx hb dX11_gain_17 rfl (lv_at hl 3 rfl) ?_
      exact hj18 x3 H locs ls hf hS (lv_sub hl [] rfl)
    · have hf := ifp hf q2
      refine lv_iload_n hx hb dX11_gain_13 rfl (lv_at hl 2 rfl) ?_
      refine lv_goto (tgt := 18) hx hb dX11_gain_14 (by decide) ?_
      exact hj18 x2 H locs ls hf hS (lv_sub hl [] rfl)
  · have hf := ifp hf q1
    refine lv_iconst (v := 0) hx hb dX11_gain_5 (by decide) ?_
    refine lv_goto (tgt := 18) hx hb dX11_gain_6 (by decide) ?_
    exact hj18 0 H locs ls hf hS (lv_sub hl [] rfl)
set_option maxRecDepth 100000 in
theorem cX11_gain_ok {l : Launch} {E : Ev} {x0 : Int32} {x1 : Int32} {x2 : Int32} {x3 : Int32} {mm : Mem} {r : Int32} (hf : fX11_gain x0 x1 x2 x3 = some r) : CtI l yX11_gain cX11_gain 4 (some .int) (0) (0) E [.int x0, .int x1, .int x2, .int x3] mm r mm := by
  refine Met.ofW (cc := cX11_gain) (maxL := 4) (ret := (some .int)) (by decide) rfl ?_
  intro p e s m args below meth c s₁ B hml hv
  obtain ⟨rfl, X, hS, hr, hlocks⟩ := am_in B hv
  refine am_entry (Nat.le_of_ble_eq_true rfl) (fun ls hl => ?_)
  exact wX11_gain X hml ⟨Nat.le_refl _, Nat.le_refl _⟩ hf (fun pc H locs ls hn hd hS => am_ri X hS hr hn hd hlocks) _ _ ls hS hl
set_option maxHeartbeats 4000000 in
set_option maxRecDepth 100000 in
theorem wX11_wouldStay {p : Program} {l : Launch} {e : Env} {R : Room} {s : State} {m : MethodId} {args : Array Value} {below : List Frame} {meth : Method} {c : Code} {Q : State → Prop} {E : Ev} (X : Cx p s m args c cX11_wouldStay RX11 E) (hml : c.maxLocals = 4) (hR : 1 ≤ R.frames ∧ 23 ≤ R.locals) {x0 : Int32} {x1 : Int32} {x2 : Int32} {x3 : Int32} {mm : Mem} {r : Int32} (hf : fX11_wouldStay x0 x1 x2 x3 = some r) (hret : ∀ (pc : Nat) (H : Heap) (locs : List Loc) (ls : Array Slot), narrow .boolean (.int r) = .int r → decode cX11_wouldStay pc = .ok (.ireturn, 1) → wS E s mm H locs → W p l e R s m args below meth c H locs 0 0 Q (F0 m pc ls [.int r])) : ∀ (H : Heap) (locs : List Loc) (ls : Array Slot), wS E s mm H locs → lv_has ls 4 [(0, .int x0), (1, .int x1), (2, .int x2), (3, .int x3)] → W p l e R s m args below meth c H locs 0 0 Q (F0 m 0 ls []) := by
  have hx := X.1
  have hb := X.2.1
  have hR1 := hR.1
  have hR2 := hR.2
  have hRa : 1 ≤ R.frames := by omega
  have hRb : 23 ≤ R.locals := by omega
  unfold fX11_wouldStay at hf
  have hj24 : ∀ (s0 : Int32) (H : Heap) (locs : List Loc) (ls : Array Slot), fX11_wouldStay_j24 s0 = some r → wS E s mm H locs → lv_has ls 4 [] → W p l e R s m args below meth c H locs 0 0 Q (F0 m 24 ls [.int s0]) := by
    intro s0 H locs ls hf hS hl
    unfold fX11_wouldStay_j24 at hf
    obtain ⟨v1, h1, hf⟩ := bs hf
    obtain ⟨rfl, h2⟩ := ckZ_n h1
    cases hf
    exact hret _ _ _ _ h2 dX11_wouldStay_24 hS
  intro H locs ls hS hl
  refine lv_iload_n hx hb dX11_wouldStay_0 rfl (lv_at hl 0 rfl) ?_
  refine lv_iload_n hx hb dX11_wouldStay_1 rfl (lv_at hl 1 rfl) ?_
  refine lv_iload_n hx hb dX11_wouldStay_2 rfl (lv_at hl 2 rfl) ?_
  refine lv_iload_n hx hb dX11_wouldStay_3 rfl (lv_at hl 3 rfl) ?_
  obtain ⟨v2, h1, hf⟩ := bs hf
  refine am_endi hS (am_runS (As := [.int x0, .int x1, .int x2, .int x3]) X (hml.trans hl.1.symm) hS (cX11_gain_ok (l := l) (E := E) h1) ms_X11_341 ⟨Nat.le_trans (by decide) hRa, Nat.le_trans (by decide) hRb⟩ ⟨Nat.zero_le _, Nat.zero_le _⟩ rfl rfl (Nat.le_of_ble_eq_true rfl) dX11_wouldStay_4) (fun H locs hS => ?_)
  refine lv_iconst (v := 1) hx hb dX11_wouldStay_7 (by decide) ?_
  refine lv_iload_n hx hb dX11_wouldStay_8 rfl (lv_at hl 0 rfl) ?_
  refine lv_isub hx hb dX11_wouldStay_9 ?_
  refine lv_iload_n hx hb dX11_wouldStay_10 rfl (lv_at hl 1 rfl) ?_
  refine lv_iload_n hx hb dX11_wouldStay_11 rfl (lv_at hl 2 rfl) ?_
  refine lv_iload_n hx hb dX11_wouldStay_12 rfl (lv_at hl 3 rfl) ?_
  obtain ⟨v3, h1, hf⟩ := bs hf
  refine am_endi hS (am_runS (As := [.int (1 - x0), .int x1, .int x2, .int x3]) X (hml.trans hl.1.symm) hS (cX11_gain_ok (l := l) (E := E) h1) ms_X11_341 ⟨Nat.le_trans (by decide) hRa, Nat.le_trans (by decide) hRb⟩ ⟨Nat.zero_le _, Nat.zero_le _⟩ rfl rfl (Nat.le_of_ble_eq_true rfl) dX11_wouldStay_13) (fun H locs hS => ?_)
  refine lv_icmp_lt (tgt := 23) hx hb dX11_wouldStay_16 (by decide) (fun q4 => ?_) (fun q4 => ?_)
  · have hf := ifp hf q4
    refine lv_iconst (v := 0) hx hb dX11_wouldStay_23 (by decide) ?_
    exact hj24 0 H locs ls hf hS (lv_sub hl [] rfl)
  · have hf := ifn hf q4
    refine lv_iconst (v := 1) hx hb dX11_wouldStay_19 (by decide) ?_
    refine lv_goto (tgt := 24) hx hb dX11_wouldStay_20 (by decide) ?_
    exact hj24 1 H locs ls hf hS (lv_sub hl [] rfl)
set_option maxRecDepth 100000 in
theorem cX11_wouldStay_ok {l : Launch} {E : Ev} {x0 : Int32} {x1 : Int32} {x2 : Int32} {x3 : Int32} {mm : Mem} {r : Int32} (hf : fX11_wouldStay x0 x1 x2 x3 = some r) : CtI l yX11_wouldStay cX11_wouldStay 4 (some .boolean) (1) (23) E [.int x0, .int x1, .int x2, .int x3] mm r mm := by
  refine Met.ofW (cc := cX11_wouldStay) (maxL := 4) (ret := (some .boolean)) (by decide) rfl ?_
  intro p e s m args below meth c s₁ B hml hv
  obtain ⟨rfl, X, hS, hr, hlocks⟩ := am_in B hv
  refine am_entry (Nat.le_of_ble_eq_true rfl) (fun ls hl => ?_)
  exact wX11_wouldStay X hml ⟨Nat.le_refl _, Nat.le_refl _⟩ hf (fun pc H locs ls hn hd hS => am_ri X hS hr hn hd hlocks) _ _ ls hS hl
set_option maxHeartbeats 4000000 in
set_option maxRecDepth 100000 in
theorem wX11_lit {p : Program} {l : Launch} {e : Env} {R : Room} {s : State} {m : MethodId} {args : Array Value} {below : List Frame} {meth : Method} {c : Code} {Q : State → Prop} {E : Ev} (X : Cx p s m args c cX11_lit RX11 E) (hml : c.maxLocals = 3) (hR : 2 ≤ R.frames ∧ 47 ≤ R.locals) {x0 : Nat} {mm : Mem} {r : Int32} (hf : fX11_lit (eS E) x0 mm = some r) (hret : ∀ (pc : Nat) (H : Heap) (locs : List Loc) (ls : Array Slot), narrow .int (.int r) = .int r → decode cX11_lit pc = .ok (.ireturn, 1) → wS E s mm H locs → W p l e R s m args below meth c H locs 0 0 Q (F0 m pc ls [.int r])) : ∀ (H : Heap) (locs : List Loc) (ls : Array Slot), wS E s mm H locs → lv_has ls 3 [(0, .ref x0)] → W p l e R s m args below meth c H locs 0 0 Q (F0 m 0 ls []) := by
  have hx := X.1
  have hb := X.2.1
  have hR1 := hR.1
  have hR2 := hR.2
  have hRa : 2 ≤ R.frames := by omega
  have hRb : 47 ≤ R.locals := by omega
  unfold fX11_lit at hf
  have hj41 : ∀ (x1 : Int32) (H : Heap) (locs : List Loc) (ls : Array Slot), fX11_lit_j41 (eS E) x1 mm = some r → wS E s mm H locs → lv_has ls 3 [(1, .int x1)] → W p l e R s m args below meth c H locs 0 0 Q (F0 m 41 ls []) := by
    intro x1 H locs ls hf hS hl
    unfold fX11_lit_j41 at hf
    refine lv_iload_n hx hb dX11_lit_41 rfl (lv_at hl 0 rfl) ?_
    cases hf
    exact hret _ _ _ _ rfl dX11_lit_42 hS
  intro H locs ls hS hl
  refine lv_iconst (v := 0) hx hb dX11_lit_0 (by decide) ?_
  refine lv_topi (fun x1_1 e1 => ?_)
  have hf := lt1_n e1 hf
  refine lv_istore_n (lv' := [(1, .int x1_1), (0, .ref x0)]) hx hb dX11_lit_1 rfl hl (by decide) rfl (fun ls hl => ?_)
  refine lv_iconst (v := 0) hx hb dX11_lit_2 (by decide) ?_
  refine lv_topi (fun x2_2 e1 => ?_)
  have hf := lt1_n e1 hf
  refine lv_istore_n (lv' := [(2, .int x2_2), (1, .int x1_1), (0, .ref x0)]) hx hb dX11_lit_3 rfl hl (by decide) rfl (fun ls hl => ?_)
  obtain ⟨ex4, hl4, hk4⟩ := bs hf
  refine loop_W (P := fun st => ∀ (H : Heap) (locs : List Loc) (ls : Array Slot), wS E s mm H locs → lv_has ls 3 [(0, .ref x0), (1, .int st.1), (2, .int st.2)] → W p l e R s m args below meth c H locs 0 0 Q (F0 m 4 ls [])) (ex := ex4) ?_ FU _ hl4 H locs ls hS (lv_sub hl [2, 1, 0] rfl)
  intro st y4 hf hyL4 hyR4 H locs ls hS hl
  obtain ⟨x1, x2⟩ := st
  have hf : fX11_lit_b4 (eS E) x0 x1 x2 mm = some y4 := hf
  have hS : wS E s mm H locs := hS
  have hl : lv_has ls 3 [(0, .ref x0), (1, .int x1), (2, .int x2)] := hl
  unfold fX11_lit_b4 at hf
  have hj33 : ∀ (x2 : Int32) (s0 : Int32) (s1 : Int32) (H : Heap) (locs : List Loc) (ls : Array Slot), fX11_lit_j33 (eS E) x0 x2 s0 s1 mm = some y4 → wS E s mm H locs → lv_has ls 3 [(0, .ref x0), (2, .int x2)] → W p l e R s m args below meth c H locs 0 0 Q (F0 m 33 ls [.int s1, .int s0]) := by
    intro x2 s0 s1 H locs ls hf hS hl
    unfold fX11_lit_j33 at hf
    refine lv_iadd hx hb dX11_lit_33 ?_
    refine lv_topi (fun x1_3 e1 => ?_)
    have hf := lt1_n e1 hf
    refine lv_istore_n (lv' := [(1, .int x1_3), (0, .ref x0), (2, .int x2)]) hx hb dX11_lit_34 rfl hl (by decide) rfl (fun ls hl => ?_)
    obtain ⟨x2_4, e1⟩ : ∃ z : Int32, z = x2 + 1 := ⟨_, rfl⟩
    have hf := lt1_n e1 hf
    refine lv_iinc (v := x2_4) (lv' := [(2, .int x2_4), (1, .int x1_3), (0, .ref x0)]) hx hb dX11_lit_35 hl (k := 2) rfl (by rw [e1]; rfl) (by decide) rfl (fun ls hl => ?_)
    refine lv_goto (tgt := 4) hx hb dX11_lit_38 (by decide) ?_
    exact hyL4 _ (Option.some.inj hf).symm H locs ls hS (lv_sub hl [2, 1, 0] rfl)
  refine lv_iload_n hx hb dX11_lit_4 rfl (lv_at hl 2 rfl) ?_
  refine lv_aload_n hx hb dX11_lit_5 rfl (lv_at hl 0 rfl) ?_
  obtain ⟨a5, h1, hf⟩ := bs hf
  refine am_gr X hS fl_X11_19 rfl h1 dX11_lit_6 ?_
  obtain ⟨v6, h1, hf⟩ := bs hf
  refine am_gi X hS fl_X11_171 rfl h1 dX11_lit_9 ?_
  refine lv_icmp_ge (tgt := 41) hx hb dX11_lit_12 (by decide) (fun q7 => ?_) (fun q7 => ?_)
  · have hf := ifp hf q7
    obtain rfl : x1 = ex4 := hyR4 _ (Option.some.inj hf).symm
    exact hj41 x1 H locs ls hk4 hS (lv_sub hl [1] rfl)
  · have hf := ifn hf q7
    refine lv_iload_n hx hb dX11_lit_15 rfl (lv_at hl 1 rfl) ?_
    refine lv_aload_n hx hb dX11_lit_16 rfl (lv_at hl 0 rfl) ?_
    obtain ⟨a8, h1, hf⟩ := bs hf
    refine am_gr X hS fl_X11_67 rfl h1 dX11_lit_17 ?_
    refine lv_iload_n hx hb dX11_lit_20 rfl (lv_at hl 2 rfl) ?_
    refine lv_iconst (v := 0) hx hb dX11_lit_21 (by decide) ?_
    obtain ⟨u0, h0, hf⟩ := bs hf
    obtain ⟨_, hrc⟩ := isO_n h0
    obtain ⟨v9, h1, hf⟩ := bs hf
    refine am_endi hS (am_runV (As := [.int x2, .int 0]) X (hml.trans hl.1.symm) hS (cX2_muchNear_ok (l := l) (E := E) h1) mv_X11_258 hrc rfl ⟨Nat.le_trans (by decide) hRa, Nat.le_trans (by decide) hRb⟩ ⟨Nat.zero_le _, Nat.zero_le _⟩ rfl rfl (Nat.le_of_ble_eq_true rfl) dX11_lit_22) (fun H locs hS => ?_)
    refine lv_if_le (tgt := 32) hx hb dX11_lit_25 (by decide) (fun q10 => ?_) (fun q10 => ?_)
    · have hf := ifp hf q10
      refine lv_iconst (v := 0) hx hb dX11_lit_32 (by decide) ?_
      exact hj33 x2 x1 0 H locs ls hf hS (lv_sub hl [0, 2] rfl)
    · have hf := ifn hf q10
      refine lv_iconst (v := 1) hx hb dX11_lit_28 (by decide) ?_
      refine lv_goto (tgt := 33) hx hb dX11_lit_29 (by decide) ?_
      exact hj33 x2 x1 1 H locs ls hf hS (lv_sub hl [0, 2] rfl)
set_option maxRecDepth 100000 in
theorem cX11_lit_ok {l : Launch} {E : Ev} {x0 : Nat} {mm : Mem} {r : Int32} (hf : fX11_lit (eS E) x0 mm = some r) : CtI l yX11_lit cX11_lit 3 (some .int) (2) (47) E [.ref x0] mm r mm := by
  refine Met.ofW (cc := cX11_lit) (maxL := 3) (ret := (some .int)) (by decide) rfl ?_
  intro p e s m args below meth c s₁ B hml hv
  obtain ⟨rfl, X, hS, hr, hlocks⟩ := am_in B hv
  refine am_entry (Nat.le_of_ble_eq_true rfl) (fun ls hl => ?_)
  exact wX11_lit X hml ⟨Nat.le_refl _, Nat.le_refl _⟩ hf (fun pc H locs ls hn hd hS => am_ri X hS hr hn hd hlocks) _ _ ls hS hl
set_option maxHeartbeats 4000000 in
set_option maxRecDepth 100000 in
theorem wX11_isTerm {p : Program} {l : Launch} {e : Env} {R : Room} {s : State} {m : MethodId} {args : Array Value} {below : List Frame} {meth : Method} {c : Code} {Q : State → Prop} {E : Ev} (X : Cx p s m args c cX11_isTerm RX11 E) (hml : c.maxLocals = 2) (hR : 0 ≤ R.frames ∧ 0 ≤ R.locals) {x0 : Int32} {x1 : Int32} {mm : Mem} {r : Int32} (hf : fX11_isTerm x0 x1 = some r) (hret : ∀ (pc : Nat) (H : Heap) (locs : List Loc) (ls : Array Slot), narrow .boolean (.int r) = .int r → decode cX11_isTerm pc = .ok (.ireturn, 1) → wS E s mm H locs → W p l e R s m args below meth c H locs 0 0 Q (F0 m pc ls [.int r])) : ∀ (H : Heap) (locs : List Loc) (ls : Array Slot), wS E s mm H locs → lv_has ls 2 [(0, .int x0), (1, .int x1)] → W p l e R s m args below meth c H locs 0 0 Q (F0 m 0 ls []) := by
  have hx := X.1
  have hb := X.2.1
  have hR1 := hR.1
  have hR2 := hR.2
  have hRa : 0 ≤ R.frames := by omega
  have hRb : 0 ≤ R.locals := by omega
  unfold fX11_isTerm at hf
  have hj26 : ∀ (s0 : Int32) (H : Heap) (locs : List Loc) (ls : Array Slot), fX11_isTerm_j26 s0 = some r → wS E s mm H locs → lv_has ls 2 [] → W p l e R s m args below meth c H locs 0 0 Q (F0 m 26 ls [.int s0]) := by
    intro s0 H locs ls hf hS hl
    unfold fX11_isTerm_j26 at hf
    obtain ⟨v1, h1, hf⟩ := bs hf
    obtain ⟨rfl, h2⟩ := ckZ_n h1
    cases hf
    exact hret _ _ _ _ h2 dX11_isTerm_26 hS
  have hj25 : ∀ (H : Heap) (locs : List Loc) (ls : Array Slot), fX11_isTerm_j25 = some r → wS E s mm H locs → lv_has ls 2 [] → W p l e R s m args below meth c H locs 0 0 Q (F0 m 25 ls []) := by
    intro H locs ls hf hS hl
    unfold fX11_isTerm_j25 at hf
    refine lv_iconst (v := 0) hx hb dX11_isTerm_25 (by decide) ?_
    exact hj26 0 H locs ls hf hS hl
  intro H locs ls hS hl
  refine lv_iload_n hx hb dX11_isTerm_0 rfl (lv_at hl 0 rfl) ?_
  refine lv_if_lt (tgt := 25) hx hb dX11_isTerm_1 (by decide) (fun q2 => ?_) (fun q2 => ?_)
  · have hf := ifp hf q2
    exact hj25  H locs ls hf hS (lv_sub hl [] rfl)
  · have hf := ifn hf q2
    refine lv_iload_n hx hb dX11_isTerm_4 rfl (lv_at hl 0 rfl) ?_
    refine lv_bipush (v := 16) hx hb dX11_isTerm_5 (by decide) ?_
    refine lv_icmp_gt (tgt := 25) hx hb dX11_isTerm_7 (by decide) (fun q3 => ?_) (fun q3 => ?_)
    · have hf := ifp hf q3
      exact hj25  H locs ls hf hS (lv_sub hl [] rfl)
    · have hf := ifn hf q3
      refine lv_iload_n hx hb dX11_isTerm_10 rfl (lv_at hl 1 rfl) ?_
      refine lv_iconst (v := 1) hx hb dX11_isTerm_11 (by decide) ?_
      refine lv_icmp_lt (tgt := 25) hx hb dX11_isTerm_12 (by decide) (fun q4 => ?_) (fun q4 => ?_)
      · have hf := ifp hf q4
        exact hj25  H locs ls hf hS (lv_sub hl [] rfl)
      · have hf := ifn hf q4
        refine lv_iload_n hx hb dX11_isTerm_15 rfl (lv_at hl 1 rfl) ?_
        refine lv_bipush (v := 48) hx hb dX11_isTerm_16 (by decide) ?_
        refine lv_icmp_gt (tgt := 25) hx hb dX11_isTerm_18 (by decide) (fun q5 => ?_) (fun q5 => ?_)
        · have hf := ifp hf q5
          exact hj25  H locs ls hf hS (lv_sub hl [] rfl)
        · have hf := ifn hf q5
          refine lv_iconst (v := 1) hx hb dX11_isTerm_21 (by decide) ?_
          refine lv_goto (tgt := 26) hx hb dX11_isTerm_22 (by decide) ?_
          exact hj26 1 H locs ls hf hS (lv_sub hl [] rfl)
set_option maxRecDepth 100000 in
theorem cX11_isTerm_ok {l : Launch} {E : Ev} {x0 : Int32} {x1 : Int32} {mm : Mem} {r : Int32} (hf : fX11_isTerm x0 x1 = some r) : CtI l yX11_isTerm cX11_isTerm 2 (some .boolean) (0) (0) E [.int x0, .int x1] mm r mm := by
  refine Met.ofW (cc := cX11_isTerm) (maxL := 2) (ret := (some .boolean)) (by decide) rfl ?_
  intro p e s m args below meth c s₁ B hml hv
  obtain ⟨rfl, X, hS, hr, hlocks⟩ := am_in B hv
  refine am_entry (Nat.le_of_ble_eq_true rfl) (fun ls hl => ?_)
  exact wX11_isTerm X hml ⟨Nat.le_refl _, Nat.le_refl _⟩ hf (fun pc H locs ls hn hd hS => am_ri X hS hr hn hd hlocks) _ _ ls hS hl
set_option maxHeartbeats 4000000 in
set_option maxRecDepth 100000 in
theorem wX11_image {p : Program} {l : Launch} {e : Env} {R : Room} {s : State} {m : MethodId} {args : Array Value} {below : List Frame} {meth : Method} {c : Code} {Q : State → Prop} {E : Ev} (X : Cx p s m args c cX11_image RX11 E) (hml : c.maxLocals = 1) (hR : 3 ≤ R.frames ∧ 103 ≤ R.locals) {x0 : Nat} {mm : Mem} {r : Int32} {mm1 : Mem} (hf : fX11_image (eS E) x0 mm = some (r, mm1)) (hret : ∀ (pc : Nat) (H : Heap) (locs : List Loc) (ls : Array Slot), narrow .int (.int r) = .int r → decode cX11_image pc = .ok (.ireturn, 1) → wS E s mm1 H locs → W p l e R s m args below meth c H locs 0 0 Q (F0 m pc ls [.int r])) : ∀ (H : Heap) (locs : List Loc) (ls : Array Slot), wS E s mm H locs → lv_has ls 1 [(0, .ref x0)] → W p l e R s m args below meth c H locs 0 0 Q (F0 m 0 ls []) := by
  have hx := X.1
  have hb := X.2.1
  have hR1 := hR.1
  have hR2 := hR.2
  have hRa : 3 ≤ R.frames := by omega
  have hRb : 103 ≤ R.locals := by omega
  unfold fX11_image at hf
  intro H locs ls hS hl
  refine lv_aload_n hx hb dX11_image_0 rfl (lv_at hl 0 rfl) ?_
  obtain ⟨v1, h1, hf⟩ := bs hf
  refine am_gi X hS fl_X11_138 rfl h1 dX11_image_1 ?_
  refine lv_iconst (v := 3) hx hb dX11_image_4 (by decide) ?_
  refine lv_icmp_lt (tgt := 10) hx hb dX11_image_5 (by decide) (fun q2 => ?_) (fun q2 => ?_)
  · have hf := ifp hf q2
    refine lv_aload_n hx hb dX11_image_10 rfl (lv_at hl 0 rfl) ?_
    obtain ⟨a3, h1, hf⟩ := bs hf
    refine am_gr X hS fl_X11_80 rfl h1 dX11_image_11 ?_
    refine lv_aload_n hx hb dX11_image_14 rfl (lv_at hl 0 rfl) ?_
    obtain ⟨v4, h1, hf⟩ := bs hf
    refine am_gi X hS fl_X11_138 rfl h1 dX11_image_15 ?_
    obtain ⟨a5, h1, hf⟩ := bs hf
    refine am_ara X hS h1 dX11_image_18 ?_
    obtain ⟨a6, h1, hf⟩ := bs hf
    refine am_gr X hS fl_X11_378 rfl h1 dX11_image_19 ?_
    refine lv_aload_n hx hb dX11_image_22 rfl (lv_at hl 0 rfl) ?_
    obtain ⟨a7, h1, hf⟩ := bs hf
    refine am_gr X hS fl_X11_67 rfl h1 dX11_image_23 ?_
    obtain ⟨u0, h0, hf⟩ := bs hf
    obtain ⟨_, hrc⟩ := isO_n h0
    obtain ⟨m8, h1, hf⟩ := bs hf
    refine am_endv hS (am_runV (As := [.ref a7]) X (hml.trans hl.1.symm) hS (cX2_copyFrom_ok (l := l) (E := E) h1) mv_X11_379 hrc rfl ⟨Nat.le_trans (by decide) hRa, Nat.le_trans (by decide) hRb⟩ ⟨Nat.zero_le _, Nat.zero_le _⟩ rfl rfl (Nat.le_of_ble_eq_true rfl) dX11_image_26) (fun H locs hS => ?_)
    refine lv_aload_n hx hb dX11_image_29 rfl (lv_at hl 0 rfl) ?_
    obtain ⟨a9, h1, hf⟩ := bs hf
    refine am_gr X hS fl_X11_80 rfl h1 dX11_image_30 ?_
    refine lv_aload_n hx hb dX11_image_33 rfl (lv_at hl 0 rfl) ?_
    obtain ⟨v10, h1, hf⟩ := bs hf
    refine am_gi X hS fl_X11_138 rfl h1 dX11_image_34 ?_
    obtain ⟨a11, h1, hf⟩ := bs hf
    refine am_ara X hS h1 dX11_image_37 ?_
    obtain ⟨a12, h1, hf⟩ := bs hf
    refine am_gr X hS fl_X11_381 rfl h1 dX11_image_38 ?_
    refine lv_aload_n hx hb dX11_image_41 rfl (lv_at hl 0 rfl) ?_
    obtain ⟨a13, h1, hf⟩ := bs hf
    refine am_gr X hS fl_X11_74 rfl h1 dX11_image_42 ?_
    obtain ⟨u0, h0, hf⟩ := bs hf
    obtain ⟨_, hrc⟩ := isO_n h0
    obtain ⟨m14, h1, hf⟩ := bs hf
    refine am_endv hS (am_runV (As := [.ref a13]) X (hml.trans hl.1.symm) hS (cX7_copyFrom_ok (l := l) (E := E) h1) mv_X11_382 hrc rfl ⟨Nat.le_trans (by decide) hRa, Nat.le_trans (by decide) hRb⟩ ⟨Nat.zero_le _, Nat.zero_le _⟩ rfl rfl (Nat.le_of_ble_eq_true rfl) dX11_image_45) (fun H locs hS => ?_)
    refine lv_aload_n hx hb dX11_image_48 rfl (lv_at hl 0 rfl) ?_
    refine lv_dup hx hb dX11_image_49 rfl ?_
    obtain ⟨v15, h1, hf⟩ := bs hf
    refine am_gi X hS fl_X11_138 rfl h1 dX11_image_50 ?_
    refine lv_iconst (v := 1) hx hb dX11_image_53 (by decide) ?_
    refine lv_iadd hx hb dX11_image_54 ?_
    obtain ⟨m16, h1, hf⟩ := bs hf
    refine am_pi X hS fp_X11_138 rfl h1 dX11_image_55 (fun H locs hS => ?_)
    refine lv_aload_n hx hb dX11_image_58 rfl (lv_at hl 0 rfl) ?_
    obtain ⟨v17, h1, hf⟩ := bs hf
    refine am_gi X hS fl_X11_138 rfl h1 dX11_image_59 ?_
    cases hf
    exact hret _ _ _ _ rfl dX11_image_62 hS
  · have hf := ifn hf q2
    refine lv_iconst (v := (-1)) hx hb dX11_image_8 (by decide) ?_
    cases hf
    exact hret _ _ _ _ rfl dX11_image_9 hS
set_option maxRecDepth 100000 in
theorem cX11_image_ok {l : Launch} {E : Ev} {x0 : Nat} {mm : Mem} {r : Int32} {mm1 : Mem} (hf : fX11_image (eS E) x0 mm = some (r, mm1)) : CtI l yX11_image cX11_image 1 (some .int) (3) (103) E [.ref x0] mm r mm1 := by
  refine Met.ofW (cc := cX11_image) (maxL := 1) (ret := (some .int)) (by decide) rfl ?_
  intro p e s m args below meth c s₁ B hml hv
  obtain ⟨rfl, X, hS, hr, hlocks⟩ := am_in B hv
  refine am_entry (Nat.le_of_ble_eq_true rfl) (fun ls hl => ?_)
  exact wX11_image X hml ⟨Nat.le_refl _, Nat.le_refl _⟩ hf (fun pc H locs ls hn hd hS => am_ri X hS hr hn hd hlocks) _ _ ls hS hl
set_option maxHeartbeats 4000000 in
set_option maxRecDepth 100000 in
theorem wX11_restore {p : Program} {l : Launch} {e : Env} {R : Room} {s : State} {m : MethodId} {args : Array Value} {below : List Frame} {meth : Method} {c : Code} {Q : State → Prop} {E : Ev} (X : Cx p s m args c cX11_restore RX11 E) (hml : c.maxLocals = 1) (hR : 3 ≤ R.frames ∧ 103 ≤ R.locals) {x0 : Nat} {mm : Mem} {r : Int32} {mm1 : Mem} (hf : fX11_restore (eS E) x0 mm = some (r, mm1)) (hret : ∀ (pc : Nat) (H : Heap) (locs : List Loc) (ls : Array Slot), narrow .int (.int r) = .int r → decode cX11_restore pc = .ok (.ireturn, 1) → wS E s mm1 H locs → W p l e R s m args below meth c H locs 0 0 Q (F0 m pc ls [.int r])) : ∀ (H : Heap) (locs : List Loc) (ls : Array Slot), wS E s mm H locs → lv_has ls 1 [(0, .ref x0)] → W p l e R s m args below meth c H locs 0 0 Q (F0 m 0 ls []) := by
  have hx := X.1
  have hb := X.2.1
  have hR1 := hR.1
  have hR2 := hR.2
  have hRa : 3 ≤ R.frames := by omega
  have hRb : 103 ≤ R.locals := by omega
  unfold fX11_restore at hf
  intro H locs ls hS hl
  refine lv_aload_n hx hb dX11_restore_0 rfl (lv_at hl 0 rfl) ?_
  obtain ⟨v1, h1, hf⟩ := bs hf
  refine am_gi X hS fl_X11_138 rfl h1 dX11_restore_1 ?_
  refine lv_if_ne (tgt := 9) hx hb dX11_restore_4 (by decide) (fun q2 => ?_) (fun q2 => ?_)
  · have hf := ifn hf q2
    refine lv_aload_n hx hb dX11_restore_9 rfl (lv_at hl 0 rfl) ?_
    refine lv_dup hx hb dX11_restore_10 rfl ?_
    obtain ⟨v3, h1, hf⟩ := bs hf
    refine am_gi X hS fl_X11_138 rfl h1 dX11_restore_11 ?_
    refine lv_iconst (v := 1) hx hb dX11_restore_14 (by decide) ?_
    refine lv_isub hx hb dX11_restore_15 ?_
    obtain ⟨m4, h1, hf⟩ := bs hf
    refine am_pi X hS fp_X11_138 rfl h1 dX11_restore_16 (fun H locs hS => ?_)
    refine lv_aload_n hx hb dX11_restore_19 rfl (lv_at hl 0 rfl) ?_
    obtain ⟨a5, h1, hf⟩ := bs hf
    refine am_gr X hS fl_X11_67 rfl h1 dX11_restore_20 ?_
    refine lv_aload_n hx hb dX11_restore_23 rfl (lv_at hl 0 rfl) ?_
    obtain ⟨a6, h1, hf⟩ := bs hf
    refine am_gr X hS fl_X11_80 rfl h1 dX11_restore_24 ?_
    refine lv_aload_n hx hb dX11_restore_27 rfl (lv_at hl 0 rfl) ?_
    obtain ⟨v7, h1, hf⟩ := bs hf
    refine am_gi X hS fl_X11_138 rfl h1 dX11_restore_28 ?_
    obtain ⟨a8, h1, hf⟩ := bs hf
    refine am_ara X hS h1 dX11_restore_31 ?_
    obtain ⟨a9, h1, hf⟩ := bs hf
    refine am_gr X hS fl_X11_378 rfl h1 dX11_restore_32 ?_
    obtain ⟨u0, h0, hf⟩ := bs hf
    obtain ⟨_, hrc⟩ := isO_n h0
    obtain ⟨m10, h1, hf⟩ := bs hf
    refine am_endv hS (am_runV (As := [.ref a9]) X (hml.trans hl.1.symm) hS (cX2_copyFrom_ok (l := l) (E := E) h1) mv_X11_379 hrc rfl ⟨Nat.le_trans (by decide) hRa, Nat.le_trans (by decide) hRb⟩ ⟨Nat.zero_le _, Nat.zero_le _⟩ rfl rfl (Nat.le_of_ble_eq_true rfl) dX11_restore_35) (fun H locs hS => ?_)
    refine lv_aload_n hx hb dX11_restore_38 rfl (lv_at hl 0 rfl) ?_
    obtain ⟨a11, h1, hf⟩ := bs hf
    refine am_gr X hS fl_X11_74 rfl h1 dX11_restore_39 ?_
    refine lv_aload_n hx hb dX11_restore_42 rfl (lv_at hl 0 rfl) ?_
    obtain ⟨a12, h1, hf⟩ := bs hf
    refine am_gr X hS fl_X11_80 rfl h1 dX11_restore_43 ?_
    refine lv_aload_n hx hb dX11_restore_46 rfl (lv_at hl 0 rfl) ?_
    obtain ⟨v13, h1, hf⟩ := bs hf
    refine am_gi X hS fl_X11_138 rfl h1 dX11_restore_47 ?_
    obtain ⟨a14, h1, hf⟩ := bs hf
    refine am_ara X hS h1 dX11_restore_50 ?_
    obtain ⟨a15, h1, hf⟩ := bs hf
    refine am_gr X hS fl_X11_381 rfl h1 dX11_restore_51 ?_
    obtain ⟨u0, h0, hf⟩ := bs hf
    obtain ⟨_, hrc⟩ := isO_n h0
    obtain ⟨m16, h1, hf⟩ := bs hf
    refine am_endv hS (am_runV (As := [.ref a15]) X (hml.trans hl.1.symm) hS (cX7_copyFrom_ok (l := l) (E := E) h1) mv_X11_382 hrc rfl ⟨Nat.le_trans (by decide) hRa, Nat.le_trans (by decide) hRb⟩ ⟨Nat.zero_le _, Nat.zero_le _⟩ rfl rfl (Nat.le_of_ble_eq_true rfl) dX11_restore_54) (fun H locs hS => ?_)
    refine lv_aload_n hx hb dX11_restore_57 rfl (lv_at hl 0 rfl) ?_
    refine lv_iconst (v := 0) hx hb dX11_restore_58 (by decide) ?_
    obtain ⟨m17, h1, hf⟩ := bs hf
    refine am_pi X hS fp_X11_141 rfl h1 dX11_restore_59 (fun H locs hS => ?_)
    refine lv_aload_n hx hb dX11_restore_62 rfl (lv_at hl 0 rfl) ?_
    obtain ⟨v18, h1, hf⟩ := bs hf
    refine am_gi X hS fl_X11_138 rfl h1 dX11_restore_63 ?_
    cases hf
    exact hret _ _ _ _ rfl dX11_restore_66 hS
  · have hf := ifp hf q2
    refine lv_iconst (v := (-1)) hx hb dX11_restore_7 (by decide) ?_
    cases hf
    exact hret _ _ _ _ rfl dX11_restore_8 hS
set_option maxRecDepth 100000 in
theorem cX11_restore_ok {l : Launch} {E : Ev} {x0 : Nat} {mm : Mem} {r : Int32} {mm1 : Mem} (hf : fX11_restore (eS E) x0 mm = some (r, mm1)) : CtI l yX11_restore cX11_restore 1 (some .int) (3) (103) E [.ref x0] mm r mm1 := by
  refine Met.ofW (cc := cX11_restore) (maxL := 1) (ret := (some .int)) (by decide) rfl ?_
  intro p e s m args below meth c s₁ B hml hv
  obtain ⟨rfl, X, hS, hr, hlocks⟩ := am_in B hv
  refine am_entry (Nat.le_of_ble_eq_true rfl) (fun ls hl => ?_)
  exact wX11_restore X hml ⟨Nat.le_refl _, Nat.le_refl _⟩ hf (fun pc H locs ls hn hd hS => am_ri X hS hr hn hd hlocks) _ _ ls hS hl
set_option maxHeartbeats 4000000 in
set_option maxRecDepth 100000 in
theorem wX11_status {p : Program} {l : Launch} {e : Env} {R : Room} {s : State} {m : MethodId} {args : Array Value} {below : List Frame} {meth : Method} {c : Code} {Q : State → Prop} {E : Ev} (X : Cx p s m args c cX11_status RX11 E) (hml : c.maxLocals = 2) (hR : 0 ≤ R.frames ∧ 0 ≤ R.locals) {x0 : Nat} {x1 : Int32} {mm : Mem} {r : Int32} (hf : fX11_status (eS E) x0 x1 mm = some r) (hret : ∀ (pc : Nat) (H : Heap) (locs : List Loc) (ls : Array Slot), narrow .int (.int r) = .int r → decode cX11_status pc = .ok (.ireturn, 1) → wS E s mm H locs → W p l e R s m args below meth c H locs 0 0 Q (F0 m pc ls [.int r])) : ∀ (H : Heap) (locs : List Loc) (ls : Array Slot), wS E s mm H locs → lv_has ls 2 [(0, .ref x0), (1, .int x1)] → W p l e R s m args below meth c H locs 0 0 Q (F0 m 0 ls []) := by
  have hx := X.1
  have hb := X.2.1
  have hR1 := hR.1
  have hR2 := hR.2
  have hRa : 0 ≤ R.frames := by omega
  have hRb : 0 ≤ R.locals := by omega
  unfold fX11_status at hf
  have hj24 : ∀ (s0 : Int32) (H : Heap) (locs : List Loc) (ls : Array Slot), fX11_status_j24 (eS E) s0 mm = some r → wS E s mm H locs → lv_has ls 2 [] → W p l e R s m args below meth c H locs 0 0 Q (F0 m 24 ls [.int s0]) := by
    intro s0 H locs ls hf hS hl
    unfold fX11_status_j24 at hf
    cases hf
    exact hret _ _ _ _ rfl dX11_status_24 hS
  intro H locs ls hS hl
  refine lv_iload_n hx hb dX11_status_0 rfl (lv_at hl 1 rfl) ?_
  refine lv_if_ne (tgt := 11) hx hb dX11_status_1 (by decide) (fun q1 => ?_) (fun q1 => ?_)
  · have hf := ifn hf q1
    refine lv_iload_n hx hb dX11_status_11 rfl (lv_at hl 1 rfl) ?_
    refine lv_iconst (v := 1) hx hb dX11_status_12 (by decide) ?_
    refine lv_icmp_ne (tgt := 23) hx hb dX11_status_13 (by decide) (fun q2 => ?_) (fun q2 => ?_)
    · have hf := ifn hf q2
      refine lv_iconst (v := (-1)) hx hb dX11_status_23 (by decide) ?_
      exact hj24 (-1) H locs ls hf hS (lv_sub hl [] rfl)
    · have hf := ifp hf q2
      refine lv_aload_n hx hb dX11_status_16 rfl (lv_at hl 0 rfl) ?_
      obtain ⟨v3, h1, hf⟩ := bs hf
      refine am_gi X hS fl_X11_388 rfl h1 dX11_status_17 ?_
      refine lv_goto (tgt := 24) hx hb dX11_status_20 (by decide) ?_
      exact hj24 v3 H locs ls hf hS (lv_sub hl [] rfl)
  · have hf := ifp hf q1
    refine lv_aload_n hx hb dX11_status_4 rfl (lv_at hl 0 rfl) ?_
    obtain ⟨v4, h1, hf⟩ := bs hf
    refine am_gi X hS fl_X11_385 rfl h1 dX11_status_5 ?_
    refine lv_goto (tgt := 24) hx hb dX11_status_8 (by decide) ?_
    exact hj24 v4 H locs ls hf hS (lv_sub hl [] rfl)
set_option maxRecDepth 100000 in
theorem cX11_status_ok {l : Launch} {E : Ev} {x0 : Nat} {x1 : Int32} {mm : Mem} {r : Int32} (hf : fX11_status (eS E) x0 x1 mm = some r) : CtI l yX11_status cX11_status 2 (some .int) (0) (0) E [.ref x0, .int x1] mm r mm := by
  refine Met.ofW (cc := cX11_status) (maxL := 2) (ret := (some .int)) (by decide) rfl ?_
  intro p e s m args below meth c s₁ B hml hv
  obtain ⟨rfl, X, hS, hr, hlocks⟩ := am_in B hv
  refine am_entry (Nat.le_of_ble_eq_true rfl) (fun ls hl => ?_)
  exact wX11_status X hml ⟨Nat.le_refl _, Nat.le_refl _⟩ hf (fun pc H locs ls hn hd hS => am_ri X hS hr hn hd hlocks) _ _ ls hS hl
set_option maxHeartbeats 4000000 in
set_option maxRecDepth 100000 in
theorem wX11_count {p : Program} {l : Launch} {e : Env} {R : Room} {s : State} {m : MethodId} {args : Array Value} {below : List Frame} {meth : Method} {c : Code} {Q : State → Prop} {E : Ev} (X : Cx p s m args c cX11_count RX11 E) (hml : c.maxLocals = 2) (hR : 0 ≤ R.frames ∧ 0 ≤ R.locals) {x0 : Nat} {x1 : Int32} {mm : Mem} {r : Int32} (hf : fX11_count (eS E) x0 x1 mm = some r) (hret : ∀ (pc : Nat) (H : Heap) (locs : List Loc) (ls : Array Slot), narrow .int (.int r) = .int r → decode cX11_count pc = .ok (.ireturn, 1) → wS E s mm H locs → W p l e R s m args below meth c H locs 0 0 Q (F0 m pc ls [.int r])) : ∀ (H : Heap) (locs : List Loc) (ls : Array Slot), wS E s mm H locs → lv_has ls 2 [(0, .ref x0), (1, .int x1)] → W p l e R s m args below meth c H locs 0 0 Q (F0 m 0 ls []) := by
  have hx := X.1
  have hb := X.2.1
  have hR1 := hR.1
  have hR2 := hR.2
  have hRa : 0 ≤ R.frames := by omega
  have hRb : 0 ≤ R.locals := by omega
  unfold fX11_count at hf
  intro H locs ls hS hl
  refine lv_iload_n hx hb dX11_count_0 rfl (lv_at hl 1 rfl) ?_
  by_cases q2 : x1 = 0
  · have hf := ifp hf q2
    refine lv_tableIn (off := 27) (tgt := 28) hx hb dX11_count_1 (by rw [q2]; decide) (by rw [q2]; decide) (by rw [q2]; decide) (by decide) ?_
    refine lv_aload_n hx hb dX11_count_28 rfl (lv_at hl 0 rfl) ?_
    obtain ⟨v1, h1, hf⟩ := bs hf
    refine am_gi X hS fl_X11_138 rfl h1 dX11_count_29 ?_
    cases hf
    exact hret _ _ _ _ rfl dX11_count_32 hS
  · have hf := ifn hf q2
    by_cases q5 : x1 = 1
    · have hf := ifp hf q5
      refine lv_tableIn (off := 32) (tgt := 33) hx hb dX11_count_1 (by rw [q5]; decide) (by rw [q5]; decide) (by rw [q5]; decide) (by decide) ?_
      refine lv_aload_n hx hb dX11_count_33 rfl (lv_at hl 0 rfl) ?_
      obtain ⟨a3, h1, hf⟩ := bs hf
      refine am_gr X hS fl_X11_12 rfl h1 dX11_count_34 ?_
      obtain ⟨v4, h1, hf⟩ := bs hf
      refine am_gi X hS fl_X11_103 rfl h1 dX11_count_37 ?_
      cases hf
      exact hret _ _ _ _ rfl dX11_count_40 hS
    · have hf := ifn hf q5
      by_cases q8 : x1 = 2
      · have hf := ifp hf q8
        refine lv_tableIn (off := 40) (tgt := 41) hx hb dX11_count_1 (by rw [q8]; decide) (by rw [q8]; decide) (by rw [q8]; decide) (by decide) ?_
        refine lv_aload_n hx hb dX11_count_41 rfl (lv_at hl 0 rfl) ?_
        obtain ⟨a6, h1, hf⟩ := bs hf
        refine am_gr X hS fl_X11_74 rfl h1 dX11_count_42 ?_
        obtain ⟨v7, h1, hf⟩ := bs hf
        refine am_gi X hS fl_X11_135 rfl h1 dX11_count_45 ?_
        cases hf
        exact hret _ _ _ _ rfl dX11_count_48 hS
      · have hf := ifn hf q8
        refine lv_tableOut (tgt := 49) hx hb dX11_count_1 (ts_out (x := x1) (lo := 0) (n := 3) (by decide) (by decide) (fun j hj => match j, hj with | 0, _ => fun h => q2 (h.trans (by decide))  | 1, _ => fun h => q5 (h.trans (by decide))  | 2, _ => fun h => q8 (h.trans (by decide)) | j + 3, hj => absurd hj (by omega))) (by decide) ?_
        refine lv_iconst (v := (-1)) hx hb dX11_count_49 (by decide) ?_
        cases hf
        exact hret _ _ _ _ rfl dX11_count_50 hS
set_option maxRecDepth 100000 in
theorem cX11_count_ok {l : Launch} {E : Ev} {x0 : Nat} {x1 : Int32} {mm : Mem} {r : Int32} (hf : fX11_count (eS E) x0 x1 mm = some r) : CtI l yX11_count cX11_count 2 (some .int) (0) (0) E [.ref x0, .int x1] mm r mm := by
  refine Met.ofW (cc := cX11_count) (maxL := 2) (ret := (some .int)) (by decide) rfl ?_
  intro p e s m args below meth c s₁ B hml hv
  obtain ⟨rfl, X, hS, hr, hlocks⟩ := am_in B hv
  refine am_entry (Nat.le_of_ble_eq_true rfl) (fun ls hl => ?_)
  exact wX11_count X hml ⟨Nat.le_refl _, Nat.le_refl _⟩ hf (fun pc H locs ls hn hd hS => am_ri X hS hr hn hd hlocks) _ _ ls hS hl
